/** Promise 3: send. */
public final class SendTest {
    public static void main(String[] args) {
        lengthsOfPackets();
        noPackets();
        wrongChannels();
        channelsAreApart();
        behindWhatWaits();
        bothLengthBytesCount();
        behindTheRestOfAnEmptyPacket();
        channelIsFull();
        Due.end();
    }

    private static void lengthsOfPackets() {
        int[] lengths = {7, 8, 9, 255, 256, 262, 263, 264, 518, 519, 520, 1023, 1024};
        for (int length : lengths) {
            for (int c = 0; c < 2; c++) {
                DownFrames x = new DownFrames(64);
                String name = "send(" + c + ") of " + length;
                Due.due(name, Due.send(x, c, Due.packet(length, 3)), length);
                Due.due(name + " count(4)", x.count(4), 0);
                Due.due(name + " waiting", x.waiting(c), length);
                Due.due(name + " waiting of the other", x.waiting(1 - c), 0);
            }
        }
    }

    private static void noPackets() {
        for (int length = 0; length <= 40; length++) {
            for (int says = 0; says <= 40; says++) {
                int[] bytes = new int[length];
                if (length > 5) {
                    bytes[5] = says;
                }
                boolean right = length >= 7 && says == length - 7;
                DownFrames x = new DownFrames(64);
                String name = "send(0) of " + length + " that says " + says;
                Due.due(name, Due.send(x, 0, bytes), right ? length : DownFrames.NONE);
                Due.due(name + " count(4)", x.count(4), 0);
                Due.due(name + " waiting(0)", x.waiting(0), right ? length : 0);
            }
        }
        // 65535 says 65536 bytes more: none, if it were counted in 16 bits.
        Due.due("send of 6", Due.send(new DownFrames(64), 0, new int[] {0, 0, 0, 0, 255, 255}), DownFrames.NONE);
    }

    private static void wrongChannels() {
        int[] wrong = {2, -1, 3, 7, 256, Integer.MIN_VALUE, Integer.MAX_VALUE};
        for (int c : wrong) {
            DownFrames x = new DownFrames(64);
            Due.due("send(" + c + ")", Due.send(x, c, Due.packet(10, 0)), DownFrames.NONE);
            Due.due("count(4) after send(" + c + ")", x.count(4), 0);
            Due.due("waiting(0)", x.waiting(0), 0);
            Due.due("waiting(1)", x.waiting(1), 0);
            Due.due("send(0) after it", x.send(0), DownFrames.NONE);
        }
    }

    private static void channelsAreApart() {
        DownFrames x = new DownFrames(64);
        Due.due("send(0)", Due.send(x, 0, Due.packet(10, 0)), 10);
        Due.due("send(1)", Due.send(x, 1, Due.packet(21, 0)), 21);
        Due.due("send(0)", Due.send(x, 0, Due.packet(30, 0)), 40);
        Due.due("send(1)", Due.send(x, 1, Due.packet(7, 0)), 28);
        Due.due("send(0) of nothing", x.send(0), DownFrames.NONE);
        Due.due("waiting(0)", x.waiting(0), 40);
        Due.due("waiting(1)", x.waiting(1), 28);
    }

    private static void behindWhatWaits() {
        DownFrames x = new DownFrames(64);
        int[] first = Due.packet(20, 100);
        int[] second = Due.packet(32, 200);
        Due.send(x, 1, first);
        Due.due("send(1)", Due.send(x, 1, second), 52);
        x.frame(0);
        int[] frame = Due.latest(x);
        Due.dueBytes("first packet", frame, 6, first);
        Due.dueBytes("second packet", frame, 26, second);
        Due.due("waiting(1)", x.waiting(1), 0);
    }

    private static void bothLengthBytesCount() {
        int[] high = Due.packet(270, 0);
        high[4] = 0;
        Due.due("send of 270 that says 14", Due.send(new DownFrames(64), 0, high), DownFrames.NONE);
        int[] low = Due.packet(14, 0);
        low[4] = 1;
        Due.due("send of 14 that says 270", Due.send(new DownFrames(64), 0, low), DownFrames.NONE);
        int[] top = Due.packet(262, 0);
        Due.due("its byte 5", top[5], 255);
        Due.due("send of 262", Due.send(new DownFrames(64), 0, top), 262);
    }

    private static void behindTheRestOfAnEmptyPacket() {
        DownFrames x = new DownFrames(64);
        Due.send(x, 0, Due.packet(51, 9));
        x.frame(0);
        Due.due("waiting(0)", x.waiting(0), 6);
        int[] next = Due.packet(12, 77);
        Due.due("send(0)", Due.send(x, 0, next), 18);
        x.frame(0);
        int[] frame = Due.latest(x);
        Due.dueBytes("rest", frame, 6, 255, 192, 0, 0, 0, 85);
        Due.dueBytes("packet behind it", frame, 12, next);
        Due.due("FIRST", frame[5], 6);
    }

    /**
     * Eight bytes a call can't fill a channel in 512 calls, so this goes beyond what is promised:
     * it shows that the limit of 4,096 stands and that nothing throws there.
     */
    private static void channelIsFull() {
        for (int c = 0; c < 2; c++) {
            DownFrames x = new DownFrames(64);
            for (int i = 1; i <= 3; i++) {
                Due.due("send " + i, Due.send(x, c, Due.packet(1024, i)), 1024 * i);
            }
            Due.due("send of 1017", Due.send(x, c, Due.packet(1017, 4)), 4089);
            Due.due("send of 8", Due.send(x, c, Due.packet(8, 5)), DownFrames.NONE);
            Due.due("count(4)", x.count(4), 0);
            Due.due("waiting", x.waiting(c), 4089);
            Due.due("send of 7", Due.send(x, c, Due.packet(7, 5)), 4096);
            Due.due("send of 7 more", Due.send(x, c, Due.packet(7, 5)), DownFrames.NONE);
            Due.due("send to the other", Due.send(x, 1 - c, Due.packet(7, 5)), 7);
        }
    }
}
