/** Promise 5: byteAt. */
public final class ByteAtTest {
    public static void main(String[] args) {
        int[] lengths = {64, 99, 256};
        for (int length : lengths) {
            DownFrames x = new DownFrames(length);
            Due.due("byteAt(0) before a frame", x.byteAt(0), DownFrames.NONE);
            Due.due("byteAt(last) before a frame", x.byteAt(length - 1), DownFrames.NONE);
            x.frame(0x12345678);
            edges(x, length);
            isTheLatest(x, length);
        }
        Due.end();
    }

    private static void edges(DownFrames x, int length) {
        int[] outside = {-1, length, length + 1, -length, 4096, Integer.MIN_VALUE, Integer.MAX_VALUE};
        for (int k : outside) {
            Due.due("byteAt(" + k + ")", x.byteAt(k), DownFrames.NONE);
        }
        for (int k = 0; k < length; k++) {
            Due.due("byteAt(" + k + ") is a byte", x.byteAt(k) >= 0 && x.byteAt(k) <= 255, true);
        }
        Due.due("byteAt(0)", x.byteAt(0), 21);
        Due.due("byteAt(length - 3)", x.byteAt(length - 3), 0x78);
    }

    /** Neither give nor send changes it, only the next frame does. */
    private static void isTheLatest(DownFrames x, int length) {
        int[] before = Due.latest(x);
        Due.send(x, 1, Due.packet(40, 200));
        x.give(-1L, 8);
        Due.dueBytes("after give and send", Due.latest(x), 0, before);
        x.frame(-1);
        Due.due("byteAt(1)", x.byteAt(1), 163);
        Due.due("byteAt(2)", x.byteAt(2), 1);
        Due.due("byteAt(6)", x.byteAt(6), 200);
        Due.due("byteAt(length - 3)", x.byteAt(length - 3), 255);
    }
}
