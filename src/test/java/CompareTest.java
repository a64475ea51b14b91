import java.util.Random;

/** All promises: mixed runs, each answer compared with that of PlainFrames. */
public final class CompareTest {
    private static final int[] EDGES = {
        Integer.MIN_VALUE, -1, 0, 1, 2, 3, 4, 5, 6, 7, 8, 9, 63, 64, 255, 256, 1024, 4096, Integer.MAX_VALUE,
    };

    public static void main(String[] args) {
        for (int seed = 0; seed < 400; seed++) {
            // Every tenth run goes far beyond 512 calls: its rows wrap round and fill up.
            run(new Random(seed), seed % 10 == 9 ? 12000 : 512, seed % 20 == 19 ? 400 : 12);
        }
        Due.end();
    }

    private static void run(Random random, int calls, int frameRarity) {
        int length = random.nextInt(4) == 0 ? EDGES[random.nextInt(EDGES.length)] : 60 + random.nextInt(200);
        DownFrames x = new DownFrames(length);
        PlainFrames plain = new PlainFrames(length);
        int[] packet = {};
        int at = 0;
        for (int i = 0; i < calls; i++) {
            if (random.nextInt(frameRarity) == 0) {
                frame(x, plain, random.nextInt());
            } else if (random.nextInt(30) == 0) {
                anyCall(random, x, plain);
            } else if (at < packet.length) {
                at = givePart(random, x, plain, packet, at);
            } else {
                int c = random.nextInt(2);
                Due.due("send(" + c + ")", x.send(c), plain.send(c));
                packet = Due.packet(7 + random.nextInt(random.nextInt(8) == 0 ? 1018 : 90), random.nextInt());
                at = 0;
            }
            state(x, plain);
        }
    }

    private static int givePart(Random random, DownFrames x, PlainFrames plain, int[] packet, int at) {
        int n = Math.min(packet.length - at, random.nextInt(4) == 0 ? 1 + random.nextInt(8) : 8);
        long w = random.nextLong();
        for (int i = 0; i < n; i++) {
            int shift = 56 - 8 * i;
            w = w & ~(255L << shift) | (long) packet[at + i] << shift;
        }
        Due.due("give(" + w + ", " + n + ")", x.give(w, n), plain.give(w, n));
        return at + n;
    }

    private static void frame(DownFrames x, PlainFrames plain, int word) {
        Due.due("frame(" + word + ")", x.frame(word), plain.frame(word));
        for (int k = -1; k <= 256; k++) {
            Due.due("byteAt(" + k + ")", x.byteAt(k), plain.byteAt(k));
        }
    }

    private static void anyCall(Random random, DownFrames x, PlainFrames plain) {
        int edge = EDGES[random.nextInt(EDGES.length)];
        switch (random.nextInt(5)) {
            case 0 -> Due.due("give(-2, " + edge + ")", x.give(-2L, edge), plain.give(-2L, edge));
            case 1 -> Due.due("send(" + edge + ")", x.send(edge), plain.send(edge));
            case 2 -> Due.due("byteAt(" + edge + ")", x.byteAt(edge), plain.byteAt(edge));
            case 3 -> Due.due("waiting(" + edge + ")", x.waiting(edge), plain.waiting(edge));
            default -> Due.due("count(" + edge + ")", x.count(edge), plain.count(edge));
        }
    }

    private static void state(DownFrames x, PlainFrames plain) {
        for (int what = -1; what <= 6; what++) {
            Due.due("count(" + what + ")", x.count(what), plain.count(what));
        }
        for (int c = -1; c <= 2; c++) {
            Due.due("waiting(" + c + ")", x.waiting(c), plain.waiting(c));
        }
    }
}
