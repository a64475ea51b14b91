/**
 * Terms: where what waits ends before the field does, an empty packet comes, as long as what is left
 * of the field, but at least 7; what is too much of it waits then.
 */
public final class EmptyPacketBoundTest {
    public static void main(String[] args) {
        int[] lengths = {64, 65, 255, 256};
        for (int length : lengths) {
            for (int c = 0; c < 2; c++) {
                noneIsLeft(length, c, 0);
                noneIsLeft(length, c, 1);
                for (int left = 1; left <= 9; left++) {
                    left(length, c, left);
                }
                left(length, c, length - 12 - 8);
                left(length, c, length - 12 - 7);
                for (int rest = 1; rest <= 6; rest++) {
                    restAndShortAgain(length, c, rest);
                }
            }
        }
        Due.end();
    }

    /** What waits ends with the field, or behind it: no empty packet comes into this frame. */
    private static void noneIsLeft(int length, int c, int over) {
        int field = length - 12;
        int[] packet = Due.packet(field + over, 90);
        DownFrames x = new DownFrames(length);
        Due.send(x, c, packet);
        String name = "length " + length + ", " + over + " more than the field";
        Due.due(name, x.frame(0), c);
        Due.due(name + ", waiting", x.waiting(c), over);
        for (int i = 0; i < field; i++) {
            Due.due(name + ", field byte " + i, x.byteAt(6 + i), packet[i]);
        }
    }

    /** What waits behind the first frame is alone in the second, and the longest empty packets come there. */
    private static void left(int length, int c, int left) {
        int field = length - 12;
        int[] packet = Due.packet(field - left, 90);
        int[] all = Due.joined(packet, Due.emptyPacket(Math.max(7, left)));
        int rest = all.length - field;
        if (rest > 0) {
            all = Due.joined(all, Due.emptyPacket(field - rest));
        }
        String name = "length " + length + ", channel " + c + ", left " + left;
        for (int f = 0; f * field < all.length; f++) {
            DownFrames x = new DownFrames(length);
            Due.send(x, c, packet);
            for (int i = 0; i <= f; i++) {
                Due.due(name + ", frame " + i, x.frame(0), c);
            }
            Due.due(name + ", waiting behind frame " + f, x.waiting(c), f == 0 ? rest : 0);
            for (int i = 0; i < field; i++) {
                Due.due(name + ", byte " + (f * field + i), x.byteAt(6 + i), all[f * field + i]);
            }
        }
    }

    /** A rest, then a packet that leaves so much that an empty packet of 7 is cut at the same place again. */
    private static void restAndShortAgain(int length, int c, int rest) {
        int field = length - 12;
        DownFrames x = new DownFrames(length);
        Due.send(x, c, Due.packet(field - 7 + rest, 90));
        x.frame(0);
        int[] second = Due.packet(field - 7, 33);
        Due.due("send behind the rest", Due.send(x, c, second), field - 7 + rest);
        Due.due("frame", x.frame(0), c);
        String name = "length " + length + ", channel " + c + ", again " + rest;
        Due.due(name + ", FIRST", Due.first(x), rest);
        Due.due(name + ", waiting", x.waiting(c), rest);
        int[] empty = Due.emptyPacket(7);
        for (int i = 0; i < 7 - rest; i++) {
            Due.due(name + ", begin of the empty packet", x.byteAt(6 + field - 7 + rest + i), empty[i]);
        }
        for (int i = 0; i < rest; i++) {
            Due.due(name + ", rest before", x.byteAt(6 + i), empty[7 - rest + i]);
        }
    }
}
