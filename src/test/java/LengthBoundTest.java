/** Promise 1: LENGTH 64 .. 256 (what is less or more is the nearest of these). */
public final class LengthBoundTest {
    public static void main(String[] args) {
        for (int length = 64; length <= 256; length++) {
            dueLength(length, length);
        }
        int[] less = {63, 62, 12, 1, 0, -1, -64, -256, Integer.MIN_VALUE + 1, Integer.MIN_VALUE};
        for (int asked : less) {
            dueLength(asked, 64);
        }
        int[] more = {257, 258, 320, 512, 65536, 65600, Integer.MAX_VALUE - 1, Integer.MAX_VALUE};
        for (int asked : more) {
            dueLength(asked, 256);
        }
        Due.end();
    }

    private static void dueLength(int asked, int length) {
        DownFrames x = new DownFrames(asked);
        String name = "new DownFrames(" + asked + ")";
        Due.due(name + ", count(5)", x.count(5), length);
        Due.send(x, 0, Due.packet(256, 0));
        x.frame(0x01020304);
        Due.due(name + ", count(5) later", x.count(5), length);
        Due.due(name + ", waiting(0)", x.waiting(0), 256 - (length - 12));
        int[] word = {1, 2, 3, 4};
        for (int i = 0; i < 4; i++) {
            Due.due(name + ", byte " + i + " of the word", x.byteAt(length - 6 + i), word[i]);
        }
        int[] frame = Due.latest(x);
        int check = PlainFrames.check(frame, length - 2);
        Due.due(name + ", byteAt(LENGTH - 2)", x.byteAt(length - 2), check / 256);
        Due.due(name + ", byteAt(LENGTH - 1)", x.byteAt(length - 1), check % 256);
        Due.due(name + ", byteAt(LENGTH)", x.byteAt(length), DownFrames.NONE);
    }
}
