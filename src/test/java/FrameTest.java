/** Promise 4: frame. */
public final class FrameTest {
    public static void main(String[] args) {
        knownCheck();
        idleFrame();
        words();
        choiceOfChannel();
        numbersModulo256();
        everyEndOfTheField();
        firstOfLongPackets();
        restOfEmptyPackets();
        Due.end();
    }

    /** The check is the well-known one whose answer for "123456789" is 29B1. */
    private static void knownCheck() {
        int[] text = {'1', '2', '3', '4', '5', '6', '7', '8', '9'};
        Due.due("check of 123456789", PlainFrames.check(text, 9), 0x29B1);
        DownFrames x = new DownFrames(64);
        x.frame(16777216);
        Due.dueBytes("check of the first idle frame", Due.latest(x), 62, 193, 181);
    }

    private static void dueCheck(String name, int[] frame) {
        int check = PlainFrames.check(frame, frame.length - 2);
        Due.dueBytes(name + " check", frame, frame.length - 2, check / 256, check % 256);
    }

    private static void idleFrame() {
        int[] lengths = {64, 65, 200, 256};
        for (int length : lengths) {
            DownFrames x = new DownFrames(length);
            for (int i = 0; i < 3; i++) {
                Due.due("frame", x.frame(0x01020304), 7);
                int[] frame = Due.latest(x);
                Due.dueBytes("idle head", frame, 0, 0x15, 0xAF, i, i, 0x1F, 0xFE);
                Due.dueSame("idle field", frame, 6, length - 12, 85);
                Due.dueBytes("idle word", frame, length - 6, 1, 2, 3, 4);
                dueCheck("idle", frame);
                Due.due("waiting(0)", x.waiting(0), 0);
                Due.due("waiting(1)", x.waiting(1), 0);
            }
        }
    }

    private static void words() {
        int[] words = {0, 1, -1, 255, 256, 65535, 65536, 0x7FFFFFFF, 0x80000000, 0xDEADBEEF, 0x00800080};
        DownFrames x = new DownFrames(70);
        for (int word : words) {
            x.frame(word);
            int[] frame = Due.latest(x);
            Due.dueBytes("word " + word, frame, 64, word >>> 24, word >>> 16 & 255, word >>> 8 & 255, word & 255);
            dueCheck("word " + word, frame);
        }
    }

    private static void choiceOfChannel() {
        DownFrames x = new DownFrames(64);
        Due.send(x, 1, Due.packet(60, 0));
        Due.send(x, 0, Due.packet(60, 0));
        // 60 bytes and an empty packet of 44: two fields of 52 each.
        int[] channels = {0, 0, 1, 1, 7};
        int[][] heads = {
            {0x15, 0xA1, 0, 0, 0x18, 0}, {0x15, 0xA1, 1, 1, 0x18, 8},
            {0x15, 0xA3, 2, 0, 0x18, 0}, {0x15, 0xA3, 3, 1, 0x18, 8},
            {0x15, 0xAF, 4, 0, 0x1F, 0xFE},
        };
        for (int i = 0; i < channels.length; i++) {
            Due.due("frame " + i, x.frame(i), channels[i]);
            Due.dueBytes("frame " + i, Due.latest(x), 0, heads[i]);
            dueCheck("frame " + i, Due.latest(x));
        }
        Due.send(x, 1, Due.packet(104, 0));
        Due.due("frame of 1", x.frame(0), 1);
        Due.send(x, 0, Due.packet(52, 0));
        Due.due("frame of 0 between", x.frame(0), 0);
        Due.due("frame of 1 again", x.frame(0), 1);
        Due.dueBytes("frame of 1 again", Due.latest(x), 0, 0x15, 0xA3, 7, 3, 0x1F, 0xFF);
        Due.due("frame of 7", x.frame(0), 7);
        Due.dueBytes("frame of 7", Due.latest(x), 0, 0x15, 0xAF, 8, 1);
    }

    private static void numbersModulo256() {
        DownFrames x = new DownFrames(64);
        Due.send(x, 1, Due.packet(52, 0));
        Due.due("frame", x.frame(0), 1);
        for (int i = 0; i < 300; i++) {
            Due.due("frame", x.frame(0), 7);
            Due.due("byteAt(2) of frame " + i, x.byteAt(2), (i + 1) % 256);
            Due.due("byteAt(3) of frame " + i, x.byteAt(3), i % 256);
        }
        Due.send(x, 1, Due.packet(52, 0));
        x.frame(0);
        Due.due("byteAt(2)", x.byteAt(2), 301 % 256);
        Due.due("byteAt(3)", x.byteAt(3), 1);
        Due.due("count(0)", x.count(0), 302);
    }

    /** A packet that leaves 0, 1, .. bytes of the field to the empty packet. */
    private static void everyEndOfTheField() {
        int[] lengths = {64, 255, 256};
        for (int length : lengths) {
            int field = length - 12;
            for (int left = 0; left <= field - 7; left++) {
                endOfTheField(length, field - left, left);
            }
        }
    }

    private static void endOfTheField(int length, int size, int left) {
        DownFrames x = new DownFrames(length);
        int[] packet = Due.packet(size, 31);
        Due.send(x, 0, packet);
        String name = "length " + length + " left " + left;
        Due.due(name, x.frame(-2), 0);
        int[] frame = Due.latest(x);
        Due.dueBytes(name, frame, 0, 0x15, 0xA1, 0, 0, 0x18, 0);
        Due.dueBytes(name, frame, 6, packet);
        int empty = left == 0 ? 0 : Math.max(7, left);
        int[] head = {7, 255, 192, 0, 0, empty - 7};
        for (int i = 0; i < left; i++) {
            Due.due(name + " empty packet byte " + i, frame[6 + size + i], i < 6 ? head[i] : 85);
        }
        Due.due(name + " waiting(0)", x.waiting(0), empty - left);
        Due.dueBytes(name + " word", frame, length - 6, 255, 255, 255, 254);
        dueCheck(name, frame);
        Due.due(name + " next frame", x.frame(0), empty > left ? 0 : 7);
        frame = Due.latest(x);
        for (int i = left; i < empty; i++) {
            Due.due(name + " rest byte " + i, frame[6 + i - left], i < 6 ? head[i] : 85);
        }
        if (empty > left) {
            int rest = empty - left;
            Due.dueBytes(name + " FIRST after the rest", frame, 4, 0x18, rest);
            Due.dueBytes(name + " second empty packet", frame, 6 + rest, 7, 255, 192, 0, 0, length - 12 - rest - 7, 85);
            Due.due(name + " waiting(0)", x.waiting(0), 0);
        }
    }

    private static void firstOfLongPackets() {
        DownFrames x = new DownFrames(64);
        Due.send(x, 0, Due.packet(104, 0));
        Due.send(x, 0, Due.packet(51, 0));
        Due.send(x, 0, Due.packet(7, 0));
        Due.send(x, 0, Due.packet(7, 0));
        // 104 + 51 + 7 + 7 = 169: begins at 0, 104, 155, 162, then an empty packet of 39.
        int[][] firsts = {{0x18, 0}, {0x1F, 0xFF}, {0x18, 0}, {0x18, 6}};
        int[] rests = {117, 65, 13, 0};
        for (int i = 0; i < firsts.length; i++) {
            Due.due("frame " + i, x.frame(0), 0);
            Due.dueBytes("FIRST of frame " + i, Due.latest(x), 4, firsts[i]);
            Due.due("waiting(0) after frame " + i, x.waiting(0), rests[i]);
        }
        DownFrames last = new DownFrames(64);
        Due.send(last, 1, Due.packet(103, 0));
        last.frame(0);
        last.frame(0);
        Due.dueBytes("FIRST at the last place", Due.latest(last), 4, 0x18, 51);
        Due.dueBytes("one byte of the empty packet", Due.latest(last), 57, 7);
        Due.due("waiting(1)", last.waiting(1), 6);
        DownFrames wide = new DownFrames(256);
        Due.send(wide, 1, Due.packet(487, 0));
        wide.frame(0);
        wide.frame(0);
        Due.dueBytes("FIRST at the widest field's last place", Due.latest(wide), 4, 0x18, 243);
    }

    /** A channel may come to nothing but the rest of an empty packet: it still goes first. */
    private static void restOfEmptyPackets() {
        DownFrames x = new DownFrames(64);
        Due.send(x, 0, Due.packet(46, 0));
        Due.send(x, 1, Due.packet(52, 0));
        Due.due("frame", x.frame(0), 0);
        Due.due("waiting(0)", x.waiting(0), 1);
        Due.due("frame of the rest", x.frame(0), 0);
        Due.dueBytes("rest", Due.latest(x), 4, 0x18, 1, 85, 7, 255, 192, 0, 0, 44, 85);
        Due.due("frame", x.frame(0), 1);
        // The rest, 5 bytes, and a packet of 45 leave two: a second empty packet is cut too.
        Due.send(x, 0, Due.packet(50, 0));
        x.frame(0);
        Due.due("waiting(0)", x.waiting(0), 5);
        Due.send(x, 0, Due.packet(45, 0));
        x.frame(0);
        Due.dueBytes("rest and packet", Due.latest(x), 4, 0x18, 5, 192, 0, 0, 0, 85);
        Due.dueBytes("begin of the second", Due.latest(x), 56, 7, 255);
        Due.due("waiting(0)", x.waiting(0), 5);
    }
}
