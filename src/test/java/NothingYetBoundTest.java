/** Promise 1: in a new object nothing waits, there was no frame. */
public final class NothingYetBoundTest {
    public static void main(String[] args) {
        int[] lengths = {Integer.MIN_VALUE, 63, 64, 65, 255, 256, 257, Integer.MAX_VALUE};
        for (int length : lengths) {
            nothing(length);
            firstFrameOf0(length);
        }
        Due.end();
    }

    private static void nothing(int length) {
        DownFrames x = new DownFrames(length);
        String name = "new DownFrames(" + length + ")";
        Due.due(name + ", waiting(0)", x.waiting(0), 0);
        Due.due(name + ", waiting(1)", x.waiting(1), 0);
        for (int what = 0; what <= 4; what++) {
            Due.due(name + ", count(" + what + ")", x.count(what), 0);
        }
        for (int k = -1; k <= 256; k++) {
            Due.due(name + ", byteAt(" + k + ")", x.byteAt(k), DownFrames.NONE);
        }
        Due.due(name + ", send(0)", x.send(0), DownFrames.NONE);
        Due.due(name + ", send(1)", x.send(1), DownFrames.NONE);
        Due.due(name + ", frame(0)", x.frame(0), 7);
        Due.due(name + ", byteAt(2)", x.byteAt(2), 0);
        Due.due(name + ", byteAt(3)", x.byteAt(3), 0);
    }

    /** Gives and sends alone make no frame. */
    private static void firstFrameOf0(int length) {
        DownFrames x = new DownFrames(length);
        Due.send(x, 0, Due.packet(9, 4));
        Due.due("byteAt(0) before the first frame", x.byteAt(0), DownFrames.NONE);
        Due.due("count(0) before the first frame", x.count(0), 0);
        Due.due("first frame", x.frame(0), 0);
        Due.due("byteAt(0)", x.byteAt(0), 0x15);
        Due.due("byteAt(2)", x.byteAt(2), 0);
        Due.due("byteAt(3)", x.byteAt(3), 0);
        Due.due("FIRST", Due.first(x), 0);
        Due.due("count(0)", x.count(0), 1);
    }
}
