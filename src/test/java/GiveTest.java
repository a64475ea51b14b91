/** Promise 2: give. */
public final class GiveTest {
    public static void main(String[] args) {
        everyNumberOfBytes();
        wrongNumbers();
        tapeIsFull();
        tapeIsFullToTheLastByte();
        orderOfBytes();
        Due.end();
    }

    private static void everyNumberOfBytes() {
        DownFrames x = new DownFrames(64);
        int have = 0;
        for (int n = 1; n <= 8; n++) {
            have += n;
            Due.due("give(-1, " + n + ")", x.give(-1L, n), true);
            Due.due("count(4)", x.count(4), have);
        }
    }

    private static void wrongNumbers() {
        DownFrames x = new DownFrames(64);
        x.give(5L, 3);
        int[] wrong = {0, 9, 10, -1, -8, 64, 256, Integer.MIN_VALUE, Integer.MAX_VALUE};
        for (int n : wrong) {
            Due.due("give(5, " + n + ")", x.give(5L, n), false);
            Due.due("count(4)", x.count(4), 3);
        }
    }

    private static void tapeIsFull() {
        DownFrames x = new DownFrames(64);
        for (int i = 0; i < 128; i++) {
            Due.due("give " + i, x.give(0L, 8), true);
        }
        Due.due("count(4)", x.count(4), 1024);
        for (int n = 1; n <= 8; n++) {
            Due.due("give to a full tape", x.give(0L, n), false);
        }
        Due.due("count(4)", x.count(4), 1024);
        x.send(5);
        Due.due("give after send", x.give(0L, 8), true);
        Due.due("count(4)", x.count(4), 8);
    }

    private static void tapeIsFullToTheLastByte() {
        DownFrames x = new DownFrames(64);
        Due.give(x, Due.packet(1021, 7));
        Due.due("give 4 to 1021", x.give(0L, 4), false);
        Due.due("count(4)", x.count(4), 1021);
        Due.due("give 3 to 1021", x.give(0L, 3), true);
        Due.due("count(4)", x.count(4), 1024);
        Due.due("give 1 to 1024", x.give(0L, 1), false);
    }

    private static void orderOfBytes() {
        DownFrames x = new DownFrames(64);
        x.give(0xF1E2D3C400000000L, 4);
        x.give(0x0005FFFFFFFFFFFFL, 2);
        x.give(0x8000000000000000L, 1);
        // Refused: none of it may stand on the tape.
        x.give(0x7777777777777777L, 0);
        x.give(0x7777777777777777L, 9);
        x.give(0x01020304057FFFFFL, 5);
        Due.due("send(1)", x.send(1), 12);
        x.frame(0);
        Due.dueBytes("order", Due.latest(x), 6, 0xF1, 0xE2, 0xD3, 0xC4, 0, 5, 0x80, 1, 2, 3, 4, 5, 7, 255);
    }
}
