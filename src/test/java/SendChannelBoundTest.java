/** Promise 3: the tape comes to channel c, 0 or 1; NONE if there is no such channel. */
public final class SendChannelBoundTest {
    public static void main(String[] args) {
        taken(0);
        taken(1);
        int[] wrong = {-1, 2, 3, 7, 8, -2, 255, 256, 257, 65536, 65537, Integer.MIN_VALUE,
            Integer.MIN_VALUE + 1, Integer.MAX_VALUE};
        for (int c : wrong) {
            refused(c);
        }
        Due.end();
    }

    private static void taken(int c) {
        DownFrames x = new DownFrames(64);
        Due.due("send(" + c + ")", Due.send(x, c, Due.packet(20, 0)), 20);
        Due.due("waiting of it", x.waiting(c), 20);
        Due.due("waiting of the other", x.waiting(1 - c), 0);
        Due.due("send(" + c + ") behind it", Due.send(x, c, Due.packet(7, 0)), 27);
        Due.due("frame", x.frame(0), c);
    }

    private static void refused(int c) {
        DownFrames x = new DownFrames(64);
        Due.send(x, 0, Due.packet(60, 11));
        Due.send(x, 1, Due.packet(33, 12));
        x.frame(3);
        Due.give(x, Due.packet(20, 0));
        int[] before = Due.seen(x);
        String name = "send(" + c + ")";
        Due.due(name, x.send(c), DownFrames.NONE);
        Due.dueOnlyTapeEmptied(name, x, before);
        int[] channels = {0, 1, 7};
        for (int channel : channels) {
            Due.due(name + ", frame", x.frame(0), channel);
        }
    }
}
