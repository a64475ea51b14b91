/**
 * Packets of any length come to two channels and leave in frames of one length.
 */
public final class DownFrames {
    public static final int NONE = -1;

    private static final int SHORTEST = 64;
    private static final int LONGEST = 256;
    private static final int TAPE_ROOM = 1024;
    private static final int MOST_GIVEN = 8;

    private static final int SPACECRAFT = 346;
    private static final int IDLE = 7;
    private static final int FILL = 85;
    private static final int AROUND_FIELD = 12;
    private static final int FIELD_HEAD = 3;
    private static final int FIRST_OF_IDLE = 2046;
    private static final int FIRST_OF_NONE = 2047;

    private static final int PACKET_HEAD = 6;
    private static final int SHORTEST_PACKET = 7;
    private static final int LENGTH_PLACE = 4;
    private static final int EMPTY_NAME = 2047;
    private static final int EMPTY_ORDER = 3 << 14;

    private static final int COUNT_ALL = 0;
    private static final int COUNT_IDLE = 3;
    private static final int COUNT_TAPE = 4;
    private static final int COUNT_LENGTH = 5;

    private final int length;
    private final Bytes tape;
    private final Bytes latest;
    private final Channel channel0;
    private final Channel channel1;
    /** In the order of count: all frames, those of channel 0, of 1, of 7. */
    private final int[] frames;

    public DownFrames(int length) {
        this.length = Math.max(SHORTEST, Math.min(LONGEST, length));
        tape = new Bytes(TAPE_ROOM);
        latest = new Bytes(this.length);
        channel0 = new Channel();
        channel1 = new Channel();
        frames = new int[COUNT_IDLE + 1];
    }

    public boolean give(long w, int n) {
        if (n < 1 || n > MOST_GIVEN || n > tape.room()) {
            return false;
        }
        for (int i = 0; i < n; i++) {
            tape.put8((int) (w >>> (56 - 8 * i)));
        }
        return true;
    }

    public int send(int c) {
        int answer = NONE;
        Channel to = channelOf(c);
        if (to != null && holdsPacket(tape) && tape.size <= to.room()) {
            to.addPacket(tape);
            answer = to.size;
        }
        tape.clear();
        return answer;
    }

    public int frame(int word) {
        int c = nextChannel();
        int kind = c == IDLE ? COUNT_IDLE : c + 1;
        Channel from = channelOf(c);
        int fieldLength = length - AROUND_FIELD;
        // Filled up ahead, for FIRST stands before the field and may point at the empty packet.
        if (from != null) {
            from.fillUpTo(fieldLength);
        }
        latest.clear();
        latest.put16(SPACECRAFT << 4 | c << 1 | 1);
        latest.put8(frames[COUNT_ALL]);
        latest.put8(frames[kind]);
        latest.put16(FIELD_HEAD << 11 | (from == null ? FIRST_OF_IDLE : from.firstBegin(fieldLength)));
        for (int i = 0; i < fieldLength; i++) {
            latest.put8(from == null ? FILL : from.take());
        }
        latest.put16(word >>> 16);
        latest.put16(word);
        latest.put16(latest.check());
        frames[COUNT_ALL]++;
        frames[kind]++;
        return c;
    }

    public int byteAt(int k) {
        return latest.at(k);
    }

    public int waiting(int c) {
        Channel channel = channelOf(c);
        return channel == null ? NONE : channel.size;
    }

    public int count(int what) {
        if (what >= COUNT_ALL && what <= COUNT_IDLE) {
            return frames[what];
        }
        if (what == COUNT_TAPE) {
            return tape.size;
        }
        return what == COUNT_LENGTH ? length : NONE;
    }

    /** Null where there is no such row: channel 7 has none. */
    private Channel channelOf(int c) {
        if (c == 0) {
            return channel0;
        }
        return c == 1 ? channel1 : null;
    }

    private int nextChannel() {
        if (channel0.size > 0) {
            return 0;
        }
        return channel1.size > 0 ? 1 : IDLE;
    }

    private static boolean holdsPacket(Bytes bytes) {
        if (bytes.size < SHORTEST_PACKET) {
            return false;
        }
        int behind = bytes.at(LENGTH_PLACE) * 256 + bytes.at(LENGTH_PLACE + 1) + 1;
        return bytes.size == PACKET_HEAD + behind;
    }

    /** Bytes that are written from the front on, up to a fixed room. */
    private static final class Bytes {
        private final int[] row;
        private int size;

        /** The room is one of the constants or LENGTH, so never negative. */
        Bytes(int room) {
            row = new int[room];
            size = 0;
        }

        int room() {
            return row.length - size;
        }

        void clear() {
            size = 0;
        }

        void put8(int number) {
            if (size < row.length) {
                row[size] = number & 255;
                size++;
            }
        }

        void put16(int number) {
            put8(number >>> 8);
            put8(number);
        }

        int at(int k) {
            return k >= 0 && k < size ? row[k] : NONE;
        }

        int check() {
            int c = 65535;
            for (int i = 0; i < size; i++) {
                c ^= row[i] * 256;
                for (int bit = 0; bit < 8; bit++) {
                    c *= 2;
                    if (c >= 65536) {
                        c ^= 69665;
                    }
                }
            }
            return c;
        }
    }

    /** The bytes that wait, in a ring; each bears a mark if it begins a packet. */
    private static final class Channel {
        private static final int ROOM = 4096;
        /** ROOM is a power of two, so that this mask keeps every place inside the ring. */
        private static final int INSIDE = ROOM - 1;
        private static final int BEGINS = 256;

        private final int[] ring;
        private int head;
        private int size;

        Channel() {
            ring = new int[ROOM];
            head = 0;
            size = 0;
        }

        int room() {
            return ROOM - size;
        }

        void addPacket(Bytes packet) {
            for (int i = 0; i < packet.size; i++) {
                add(i == 0 ? BEGINS | packet.at(i) : packet.at(i));
            }
        }

        /** An empty packet may be longer than what is left: the rest of it just goes on waiting. */
        void fillUpTo(int wanted) {
            if (size < wanted) {
                addEmptyPacket(Math.max(wanted - size, SHORTEST_PACKET));
            }
        }

        /** The place of the first byte that begins a packet, among the next ones. */
        int firstBegin(int among) {
            for (int i = 0; i < among && i < size; i++) {
                if ((ring[(head + i) & INSIDE] & BEGINS) != 0) {
                    return i;
                }
            }
            return FIRST_OF_NONE;
        }

        int take() {
            if (size == 0) {
                return FILL;
            }
            int taken = ring[head & INSIDE] & 255;
            head = (head + 1) & INSIDE;
            size--;
            return taken;
        }

        private void addEmptyPacket(int packetLength) {
            add(BEGINS | EMPTY_NAME >>> 8);
            add(EMPTY_NAME & 255);
            add(EMPTY_ORDER >>> 8);
            add(EMPTY_ORDER & 255);
            int behind = packetLength - PACKET_HEAD;
            add((behind - 1) >>> 8 & 255);
            add((behind - 1) & 255);
            for (int i = 0; i < behind; i++) {
                add(FILL);
            }
        }

        private void add(int marked) {
            if (size < ROOM) {
                ring[(head + size) & INSIDE] = marked;
                size++;
            }
        }
    }
}
