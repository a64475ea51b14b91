/** Promise 1: a new object. */
public final class NewObjectTest {
    public static void main(String[] args) {
        int[][] lengths = {
            {64, 64}, {65, 65}, {100, 100}, {255, 255}, {256, 256},
            {63, 64}, {0, 64}, {-1, 64}, {Integer.MIN_VALUE, 64},
            {257, 256}, {1000, 256}, {Integer.MAX_VALUE, 256},
        };
        for (int[] pair : lengths) {
            isNew(pair[0], pair[1]);
        }
        lengthIsTheFrames();
        objectsAreApart();
        Due.end();
    }

    private static void isNew(int asked, int length) {
        DownFrames x = new DownFrames(asked);
        String name = "new DownFrames(" + asked + ")";
        Due.due(name + " count(5)", x.count(5), length);
        for (int what = 0; what < 5; what++) {
            Due.due(name + " count(" + what + ")", x.count(what), 0);
        }
        Due.due(name + " waiting(0)", x.waiting(0), 0);
        Due.due(name + " waiting(1)", x.waiting(1), 0);
        Due.due(name + " byteAt(0)", x.byteAt(0), DownFrames.NONE);
        Due.due(name + " byteAt(63)", x.byteAt(63), DownFrames.NONE);
        Due.due(name + " send(0)", x.send(0), DownFrames.NONE);
        Due.due(name + " frame(0)", x.frame(0), 7);
    }

    private static void lengthIsTheFrames() {
        for (int length = 64; length <= 256; length++) {
            DownFrames x = new DownFrames(length);
            x.frame(-1);
            Due.due("length " + length + " last byte is there", x.byteAt(length - 1) != DownFrames.NONE, true);
            Due.due("length " + length + " byteAt behind it", x.byteAt(length), DownFrames.NONE);
            Due.due("length " + length + " last byte of the field", x.byteAt(length - 7), 85);
            Due.due("length " + length + " first byte of the word", x.byteAt(length - 6), 255);
        }
    }

    private static void objectsAreApart() {
        DownFrames one = new DownFrames(64);
        DownFrames other = new DownFrames(80);
        Due.send(one, 0, Due.packet(9, 1));
        one.give(0L, 3);
        one.frame(0);
        Due.due("other count(0)", other.count(0), 0);
        Due.due("other count(4)", other.count(4), 0);
        Due.due("other waiting(0)", other.waiting(0), 0);
        Due.due("other byteAt(0)", other.byteAt(0), DownFrames.NONE);
        Due.due("one count(5)", one.count(5), 64);
    }
}
