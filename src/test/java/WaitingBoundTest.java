/** Promise 6: how many bytes wait in channel c; NONE if it is not 0 or 1. */
public final class WaitingBoundTest {
    public static void main(String[] args) {
        DownFrames x = new DownFrames(64);
        dueWaiting("new", x, 0, 0);
        Due.send(x, 0, Due.packet(7, 0));
        dueWaiting("the shortest packet in 0", x, 7, 0);
        Due.send(x, 1, Due.packet(1024, 0));
        dueWaiting("the longest packet in 1", x, 7, 1024);
        x.frame(0);
        dueWaiting("a frame of 0", x, 0, 1024);
        x.frame(0);
        dueWaiting("a frame of 1", x, 0, 972);
        Due.send(x, 0, Due.packet(46, 0));
        x.frame(0);
        dueWaiting("a rest of one byte in 0", x, 1, 972);
        x.frame(0);
        dueWaiting("the rest is gone", x, 0, 972);
        Due.end();
    }

    private static void dueWaiting(String name, DownFrames x, int in0, int in1) {
        Due.due(name + ", waiting(0)", x.waiting(0), in0);
        Due.due(name + ", waiting(1)", x.waiting(1), in1);
        int[] wrong = {-1, 2, -2, 3, 7, 8, 256, 257, 65536, 65537, Integer.MIN_VALUE,
            Integer.MIN_VALUE + 1, Integer.MAX_VALUE};
        for (int c : wrong) {
            Due.due(name + ", waiting(" + c + ")", x.waiting(c), DownFrames.NONE);
        }
    }
}
