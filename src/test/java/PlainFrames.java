import java.util.ArrayDeque;
import java.util.ArrayList;
import java.util.List;

/** The document once more, written another way (texts of bits, packets cut as lists), to compare with. */
final class PlainFrames {
    private record Waiting(int value, boolean begins) {
    }

    private final int length;
    private final List<Integer> tape = new ArrayList<>();
    private final List<ArrayDeque<Waiting>> channels = List.of(new ArrayDeque<>(), new ArrayDeque<>());
    private final List<Integer> channelsOfFrames = new ArrayList<>();
    private int[] latest = {};

    PlainFrames(int length) {
        this.length = length < 64 ? 64 : length > 256 ? 256 : length;
    }

    static int check(int[] bytes, int n) {
        int c = 65535;
        for (int i = 0; i < n; i++) {
            for (int bit = 7; bit >= 0; bit--) {
                boolean differs = (c >> 15 & 1) != (bytes[i] >> bit & 1);
                c = c << 1 & 65535;
                if (differs) {
                    c ^= 0x1021;
                }
            }
        }
        return c;
    }

    boolean give(long w, int n) {
        if (n < 1 || n > 8 || tape.size() + n > 1024) {
            return false;
        }
        String digits = String.format("%016x", w);
        for (int i = 0; i < n; i++) {
            tape.add(Integer.parseInt(digits.substring(2 * i, 2 * i + 2), 16));
        }
        return true;
    }

    int send(int c) {
        List<Integer> packet = List.copyOf(tape);
        tape.clear();
        if (c != 0 && c != 1 || packet.size() < 7) {
            return -1;
        }
        if (packet.get(4) * 256 + packet.get(5) != packet.size() - 7) {
            return -1;
        }
        ArrayDeque<Waiting> channel = channels.get(c);
        if (channel.size() + packet.size() > 4096) {
            return -1;
        }
        for (int i = 0; i < packet.size(); i++) {
            channel.add(new Waiting(packet.get(i), i == 0));
        }
        return channel.size();
    }

    int frame(int word) {
        int c = !channels.get(0).isEmpty() ? 0 : !channels.get(1).isEmpty() ? 1 : 7;
        int first = c == 7 ? 2046 : 2047;
        StringBuilder field = new StringBuilder();
        for (int i = 0; i < length - 12; i++) {
            if (c == 7) {
                field.append(bits(85, 8));
                continue;
            }
            if (channels.get(c).isEmpty()) {
                addEmpty(channels.get(c), Math.max(7, length - 12 - i));
            }
            Waiting next = channels.get(c).remove();
            if (next.begins() && first == 2047) {
                first = i;
            }
            field.append(bits(next.value(), 8));
        }
        String frame = "00" + bits(346, 10) + bits(c, 3) + "1"
            + bits(channelsOfFrames.size(), 8) + bits(framesOf(c), 8)
            + "00011" + bits(first, 11) + field + bits(word, 32);
        int[] bytes = bytes(frame);
        latest = bytes(frame + bits(check(bytes, bytes.length), 16));
        channelsOfFrames.add(c);
        return c;
    }

    int byteAt(int k) {
        return k < 0 || k >= latest.length ? -1 : latest[k];
    }

    int waiting(int c) {
        return c == 0 || c == 1 ? channels.get(c).size() : -1;
    }

    int count(int what) {
        return switch (what) {
            case 0 -> channelsOfFrames.size();
            case 1 -> framesOf(0);
            case 2 -> framesOf(1);
            case 3 -> framesOf(7);
            case 4 -> tape.size();
            case 5 -> length;
            default -> -1;
        };
    }

    private int framesOf(int c) {
        int n = 0;
        for (int channel : channelsOfFrames) {
            n += channel == c ? 1 : 0;
        }
        return n;
    }

    private static void addEmpty(ArrayDeque<Waiting> channel, int size) {
        int[] head = bytes("00000" + bits(2047, 11) + "11" + bits(0, 14) + bits(size - 7, 16));
        for (int i = 0; i < size; i++) {
            channel.add(new Waiting(i < 6 ? head[i] : 85, i == 0));
        }
    }

    private static String bits(int number, int n) {
        StringBuilder bits = new StringBuilder();
        for (int i = n - 1; i >= 0; i--) {
            bits.append((number >>> i & 1) == 1 ? '1' : '0');
        }
        return bits.toString();
    }

    private static int[] bytes(String bits) {
        int[] bytes = new int[bits.length() / 8];
        for (int i = 0; i < bytes.length; i++) {
            bytes[i] = Integer.parseInt(bits.substring(8 * i, 8 * i + 8), 2);
        }
        return bytes;
    }
}
