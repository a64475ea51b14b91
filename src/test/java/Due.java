import java.util.Arrays;

/** What the tests share: the count of wrong answers, and packets to send. */
final class Due {
    private static int wrong = 0;

    private Due() {
    }

    static void due(String call, long got, long want) {
        if (got != want) {
            wrong++;
            System.out.println(call + " answered " + got + ", due is " + want);
        }
    }

    static void due(String call, boolean got, boolean want) {
        due(call, got ? 1L : 0L, want ? 1L : 0L);
    }

    static void end() {
        System.out.println(wrong == 0 ? "all answers are as due" : wrong + " answers are not as due");
        if (wrong != 0) {
            System.exit(1);
        }
    }

    /** A packet of so many bytes; those behind the head count up from seed. */
    static int[] packet(int length, int seed) {
        int[] bytes = new int[length];
        for (int i = 0; i < length; i++) {
            bytes[i] = (seed + i) & 255;
        }
        bytes[4] = (length - 7) / 256;
        bytes[5] = (length - 7) % 256;
        return bytes;
    }

    static void give(DownFrames x, int[] bytes) {
        for (int at = 0; at < bytes.length; at += 8) {
            int n = Math.min(8, bytes.length - at);
            long w = 0;
            for (int i = 0; i < 8; i++) {
                // Bytes behind the n-th are not meant: 255 shows up if they are taken.
                w = w << 8 | (i < n ? bytes[at + i] : 255);
            }
            due("give", x.give(w, n), true);
        }
    }

    static int send(DownFrames x, int channel, int[] bytes) {
        give(x, bytes);
        return x.send(channel);
    }

    static int[] latest(DownFrames x) {
        int[] bytes = new int[x.count(5)];
        for (int i = 0; i < bytes.length; i++) {
            bytes[i] = x.byteAt(i);
        }
        return bytes;
    }

    static void dueBytes(String name, int[] got, int from, int... want) {
        for (int i = 0; i < want.length; i++) {
            due(name + " byte " + (from + i), from + i < got.length ? got[from + i] : -99, want[i]);
        }
    }

    static void dueSame(String name, int[] got, int from, int n, int value) {
        for (int i = from; i < from + n; i++) {
            due(name + " byte " + i, got[i], value);
        }
    }

    /** All that an object shows without being changed: its counts, what waits, the latest frame. */
    static int[] seen(DownFrames x) {
        int length = x.count(5);
        int[] seen = new int[8 + length];
        for (int what = 0; what < 6; what++) {
            seen[what] = x.count(what);
        }
        seen[6] = x.waiting(0);
        seen[7] = x.waiting(1);
        for (int k = 0; k < length; k++) {
            seen[8 + k] = x.byteAt(k);
        }
        return seen;
    }

    static void dueSeen(String name, DownFrames x, int[] want) {
        dueBytes(name + ", seen", seen(x), 0, want);
    }

    /** What an object shows after a send that was refused: only the tape is another, empty. */
    static void dueOnlyTapeEmptied(String name, DownFrames x, int[] before) {
        int[] want = before.clone();
        want[4] = 0;
        dueSeen(name, x, want);
    }

    /** FIRST of the latest frame; the bits 00011 before it are looked at too. */
    static int first(DownFrames x) {
        return x.byteAt(4) * 256 + x.byteAt(5) - (3 << 11);
    }

    static int[] field(DownFrames x) {
        int[] frame = latest(x);
        return Arrays.copyOfRange(frame, 6, frame.length - 6);
    }

    static int[] joined(int[]... rows) {
        int[] all = {};
        for (int[] row : rows) {
            int size = all.length;
            all = Arrays.copyOf(all, size + row.length);
            System.arraycopy(row, 0, all, size, row.length);
        }
        return all;
    }

    /** An empty packet of so many bytes, as the document's Terms have it. */
    static int[] emptyPacket(int length) {
        int[] bytes = new int[length];
        Arrays.fill(bytes, 85);
        int[] head = {7, 255, 192, 0, (length - 7) / 256, (length - 7) % 256};
        System.arraycopy(head, 0, bytes, 0, 6);
        return bytes;
    }
}
