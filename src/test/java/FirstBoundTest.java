/** Terms: FIRST is the place of the first byte of the field that begins a packet; 2047 if none does. */
public final class FirstBoundTest {
    private static final int NO_BEGIN = 2047;

    public static void main(String[] args) {
        int[] lengths = {64, 65, 255, 256};
        for (int length : lengths) {
            int field = length - 12;
            int[] places = {0, 1, 2, field - 2, field - 1, field, field + 1};
            for (int place : places) {
                packetBegins(length, place);
                emptyPacketBegins(length, place);
            }
            noBeginInManyFields(length);
        }
        firstOfSeveral();
        behindTheRestOfAnEmptyPacket();
        Due.end();
    }

    /** The second packet begins at this place of the second frame's field, or not in it. */
    private static void packetBegins(int length, int place) {
        int field = length - 12;
        DownFrames x = new DownFrames(length);
        Due.send(x, 1, Due.packet(field + place, 0));
        Due.send(x, 1, Due.packet(field, 0));
        String name = "length " + length + ", a packet begins at " + place;
        x.frame(0);
        Due.due(name + ", FIRST of the frame before", Due.first(x), 0);
        x.frame(0);
        Due.due(name + ", FIRST", Due.first(x), place < field ? place : NO_BEGIN);
        x.frame(0);
        Due.due(name + ", FIRST of the next", Due.first(x), nextFirst(field, place));
    }

    /** Begins are at place, and at place + field, where an empty packet comes (if the field is not full there). */
    private static int nextFirst(int field, int place) {
        if (place == 0) {
            return 2046;
        }
        return place < field ? place : place - field;
    }

    private static void emptyPacketBegins(int length, int place) {
        int field = length - 12;
        DownFrames x = new DownFrames(length);
        Due.send(x, 0, Due.packet(field + place, 0));
        String name = "length " + length + ", an empty packet begins at " + place;
        x.frame(0);
        Due.due(name + ", FIRST of the frame before", Due.first(x), 0);
        Due.due(name + ", frame", x.frame(0), place == 0 ? 7 : 0);
        int want = place < field ? place : NO_BEGIN;
        Due.due(name + ", FIRST", Due.first(x), place == 0 ? 2046 : want);
    }

    private static void noBeginInManyFields(int length) {
        int field = length - 12;
        DownFrames x = new DownFrames(length);
        Due.send(x, 0, Due.packet(1024, 0));
        x.frame(0);
        Due.due("FIRST of frame 0", Due.first(x), 0);
        for (int i = 1; (i + 1) * field <= 1024; i++) {
            Due.due("frame", x.frame(0), 0);
            Due.due("length " + length + ", FIRST of frame " + i + " of one packet", Due.first(x), NO_BEGIN);
        }
    }

    private static void firstOfSeveral() {
        DownFrames x = new DownFrames(64);
        Due.send(x, 0, Due.packet(60, 0));
        for (int i = 0; i < 4; i++) {
            Due.send(x, 0, Due.packet(7, 0));
        }
        x.frame(0);
        x.frame(0);
        Due.due("FIRST where packets begin at 8, 15, 22, 29 and an empty one at 36", Due.first(x), 8);
    }

    /** A rest of 1 .. 6 bytes begins nothing; the packet, or the empty packet, behind it does. */
    private static void behindTheRestOfAnEmptyPacket() {
        for (int rest = 1; rest <= 6; rest++) {
            for (int sent = 0; sent < 2; sent++) {
                DownFrames x = new DownFrames(64);
                Due.send(x, 1, Due.packet(45 + rest, 0));
                x.frame(0);
                Due.due("waiting(1)", x.waiting(1), rest);
                if (sent == 1) {
                    Due.send(x, 1, Due.packet(20, 0));
                }
                x.frame(0);
                Due.due("FIRST behind a rest of " + rest, Due.first(x), rest);
            }
        }
    }
}
