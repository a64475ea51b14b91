/** Promise 5: byte k of the latest frame; NONE if there is none such. */
public final class ByteAtBoundTest {
    public static void main(String[] args) {
        for (int length = 64; length <= 256; length++) {
            beforeAFrame(length);
            idleFrame(length);
            frameOf1(length);
        }
        Due.end();
    }

    private static void beforeAFrame(int length) {
        DownFrames x = new DownFrames(length);
        dueNone("before a frame", x, 0);
        dueNone("before a frame", x, 1);
        dueNone("before a frame", x, length - 1);
        outside("before a frame", x, length);
    }

    private static void idleFrame(int length) {
        DownFrames x = new DownFrames(length);
        x.frame(-1);
        inside("an idle frame", x, length);
        outside("an idle frame", x, length);
    }

    /** The latest one: the frame of 7 before it is not seen any more. */
    private static void frameOf1(int length) {
        DownFrames x = new DownFrames(length);
        x.frame(0);
        Due.send(x, 1, Due.packet(200, 0));
        x.frame(-1);
        inside("a frame of 1", x, length);
        outside("a frame of 1", x, length);
    }

    private static void inside(String name, DownFrames x, int length) {
        int[] frame = Due.latest(x);
        Due.due(name + ", byteAt(0)", x.byteAt(0), 0x15);
        int check = PlainFrames.check(frame, length - 2);
        Due.due(name + ", byteAt(" + (length - 2) + ")", x.byteAt(length - 2), check / 256);
        Due.due(name + ", byteAt(" + (length - 1) + ")", x.byteAt(length - 1), check % 256);
        Due.due(name + ", a byte of 255 is not NONE", x.byteAt(length - 3), 255);
    }

    private static void outside(String name, DownFrames x, int length) {
        int[] places = {-1, length, -2, length + 1, -length, 257, 65536, Integer.MIN_VALUE, Integer.MAX_VALUE};
        for (int k : places) {
            dueNone(name + " of " + length, x, k);
        }
    }

    private static void dueNone(String name, DownFrames x, int k) {
        Due.due(name + ", byteAt(" + k + ")", x.byteAt(k), DownFrames.NONE);
    }
}
