/** Promise 7: count. */
public final class CountTest {
    public static void main(String[] args) {
        DownFrames x = new DownFrames(64);
        dueCounts("new", x, 0, 0, 0, 0, 0, 64);
        x.frame(0);
        x.frame(0);
        x.frame(0);
        dueCounts("idle", x, 3, 0, 0, 3, 0, 64);
        Due.send(x, 1, Due.packet(104, 0));
        x.frame(0);
        x.frame(0);
        dueCounts("of 1", x, 5, 0, 2, 3, 0, 64);
        Due.send(x, 0, Due.packet(52, 0));
        x.frame(0);
        dueCounts("of 0", x, 6, 1, 2, 3, 0, 64);
        x.give(0L, 5);
        x.give(0L, 9);
        dueCounts("tape", x, 6, 1, 2, 3, 5, 64);
        x.frame(0);
        dueCounts("a frame leaves the tape", x, 7, 1, 2, 4, 5, 64);
        x.send(0);
        dueCounts("sent", x, 7, 1, 2, 4, 0, 64);
        for (int i = 0; i < 300; i++) {
            x.frame(0);
        }
        dueCounts("not modulo 256", x, 307, 1, 2, 304, 0, 64);
        Due.due("NONE", DownFrames.NONE, -1);
        Due.end();
    }

    private static void dueCounts(String name, DownFrames x, int... want) {
        for (int what = 0; what < want.length; what++) {
            Due.due(name + " count(" + what + ")", x.count(what), want[what]);
        }
        int[] wrong = {-1, 6, 7, 256, Integer.MIN_VALUE, Integer.MAX_VALUE};
        for (int what : wrong) {
            Due.due(name + " count(" + what + ")", x.count(what), DownFrames.NONE);
        }
    }
}
