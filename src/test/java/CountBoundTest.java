/** Promise 7: count of 0 .. 5; NONE for another what. */
public final class CountBoundTest {
    public static void main(String[] args) {
        DownFrames x = new DownFrames(300);
        dueCounts("new", x, 0, 0, 0, 0, 0, 256);
        x.give(-1L, 8);
        dueCounts("8 bytes on the tape", x, 0, 0, 0, 0, 8, 256);
        x.frame(0);
        x.frame(0);
        x.frame(0);
        x.send(0);
        Due.send(x, 1, Due.packet(400, 0));
        x.frame(0);
        x.frame(0);
        Due.send(x, 0, Due.packet(7, 0));
        x.frame(0);
        x.give(-1L, 1);
        dueCounts("1 frame of 0, 2 of 1, 3 of 7, a byte on the tape", x, 6, 1, 2, 3, 1, 256);
        fullTape();
        Due.end();
    }

    private static void fullTape() {
        DownFrames x = new DownFrames(-5);
        Due.give(x, new int[1023]);
        dueCounts("1023 bytes on the tape", x, 0, 0, 0, 0, 1023, 64);
        x.give(0L, 1);
        dueCounts("1024 bytes on the tape", x, 0, 0, 0, 0, 1024, 64);
    }

    private static void dueCounts(String name, DownFrames x, int... want) {
        for (int what = 0; what < 6; what++) {
            Due.due(name + ", count(" + what + ")", x.count(what), want[what]);
        }
        int[] wrong = {-1, 6, -2, 7, 8, 255, 256, 261, 65536, Integer.MIN_VALUE, Integer.MIN_VALUE + 5,
            Integer.MAX_VALUE};
        for (int what : wrong) {
            Due.due(name + ", count(" + what + ")", x.count(what), DownFrames.NONE);
        }
    }
}
