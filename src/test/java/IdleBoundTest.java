/** Terms: the field of channel 7 is of bytes 85, FIRST 2046. */
public final class IdleBoundTest {
    public static void main(String[] args) {
        for (int length = 64; length <= 256; length++) {
            idle(length);
        }
        idleBehindOthers();
        nothingWaitsBehindIt();
        Due.end();
    }

    /** From the field's first byte to its last; the head ends before it, the word begins behind it. */
    private static void idle(int length) {
        DownFrames x = new DownFrames(length);
        Due.due("frame", x.frame(0x01020304), 7);
        String name = "length " + length;
        int[] frame = Due.latest(x);
        Due.dueBytes(name, frame, 0, 0x15, 0xAF, 0, 0, 0x1F, 0xFE, 85);
        Due.dueSame(name, frame, 6, length - 12, 85);
        Due.dueBytes(name, frame, length - 7, 85, 1, 2, 3, 4);
    }

    /** What an earlier frame had is gone from the field. */
    private static void idleBehindOthers() {
        for (int c = 0; c < 2; c++) {
            DownFrames x = new DownFrames(64);
            Due.send(x, c, Due.packet(52, 120));
            Due.due("frame", x.frame(-1), c);
            Due.due("frame", x.frame(-1), 7);
            Due.due("FIRST", Due.first(x), 2046);
            Due.dueSame("behind a frame of " + c, Due.field(x), 0, 52, 85);
        }
    }

    private static void nothingWaitsBehindIt() {
        DownFrames x = new DownFrames(64);
        x.give(0L, 7);
        Due.due("frame while only the tape has bytes", x.frame(0), 7);
        Due.due("FIRST", Due.first(x), 2046);
        Due.due("count(4)", x.count(4), 7);
        Due.due("waiting(0)", x.waiting(0), 0);
        Due.due("waiting(1)", x.waiting(1), 0);
        Due.due("send(0)", x.send(0), 7);
    }
}
