/** Promise 2: the n highest bytes of w come; false, changing nothing, if n is not 1 .. 8. */
public final class GiveBoundTest {
    private static final long BYTES = 0x8192A3B4C5D6E7F8L;

    public static void main(String[] args) {
        for (int n = 1; n <= 8; n++) {
            taken(n);
        }
        int[] wrong = {0, 9, -1, 10, -8, 16, 255, 257, 264, 1024, 65537, Integer.MIN_VALUE,
            Integer.MIN_VALUE + 1, Integer.MAX_VALUE};
        for (int n : wrong) {
            refusedOnNothing(n);
            refusedBetween(n);
        }
        Due.end();
    }

    private static void taken(int n) {
        DownFrames x = new DownFrames(64);
        x.give(0L, 5);
        // Of a packet of 6 + n + 1 bytes; its last byte comes alone.
        x.give((long) n << 56, 1);
        Due.due("give of " + n, x.give(BYTES, n), true);
        Due.due("count(4) after give of " + n, x.count(4), 6 + n);
        x.give(0x7700000000000000L, 1);
        Due.due("send(0)", x.send(0), 7 + n);
        x.frame(0);
        for (int i = 0; i < n; i++) {
            Due.due("byte " + i + " of " + n, x.byteAt(12 + i), BYTES >>> (56 - 8 * i) & 255);
        }
        Due.due("the byte behind " + n, x.byteAt(12 + n), 0x77);
    }

    private static void refusedOnNothing(int n) {
        DownFrames x = new DownFrames(64);
        Due.due("give of " + n, x.give(BYTES, n), false);
        Due.due("count(4) after give of " + n, x.count(4), 0);
    }

    /** Nothing of it is seen, and the packet comes as if the call had not been. */
    private static void refusedBetween(int n) {
        DownFrames x = new DownFrames(64);
        Due.send(x, 1, Due.packet(60, 11));
        x.frame(3);
        x.give(0x0102030400010501L, 7);
        int[] before = Due.seen(x);
        String name = "give of " + n;
        Due.due(name, x.give(BYTES, n), false);
        Due.dueSeen(name, x, before);
        x.give(0x0600000000000000L, 1);
        Due.due(name + ", send(0)", x.send(0), 8);
        x.frame(0);
        Due.dueBytes(name, Due.field(x), 0, 1, 2, 3, 4, 0, 1, 5, 6, 7, 255, 192);
    }
}
