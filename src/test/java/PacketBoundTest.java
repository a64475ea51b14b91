/**
 * Terms: a packet has at least 7 bytes; bytes 4 and 5 are the number of those behind the first six,
 * less one. Promise 3: NONE if the tape is no packet (it has not as many bytes as it says).
 */
public final class PacketBoundTest {
    public static void main(String[] args) {
        tooShort();
        tooShortBehindAPacket();
        shortest();
        lowByteFull();
        longest();
        saysFarTooMuch();
        Due.end();
    }

    /** Whatever they say, fewer than 7 bytes are none, not even 6 that say 65,535 (6 in 16 bits). */
    private static void tooShort() {
        int[] words = {0, 1, 255, 256, 32767, 32768, 65529, 65530, 65534, 65535};
        for (int size = 0; size <= 6; size++) {
            for (int says : words) {
                dueSend(size, says, false);
            }
        }
    }

    /** The bytes of the packet that was sent before are not the tape's any more. */
    private static void tooShortBehindAPacket() {
        for (int size = 0; size <= 6; size++) {
            DownFrames x = new DownFrames(64);
            Due.due("send(0) of 7", Due.send(x, 0, tape(7, 0)), 7);
            Due.due("send(0) of " + size + " behind it", Due.send(x, 0, tape(size, 0)), DownFrames.NONE);
            Due.due("waiting(0)", x.waiting(0), 7);
        }
    }

    private static void shortest() {
        dueSend(7, 0, true);
        dueSend(7, 1, false);
        dueSend(8, 0, false);
        dueSend(8, 1, true);
        dueSend(8, 2, false);
        dueSend(9, 2, true);
    }

    private static void lowByteFull() {
        int[] sizes = {261, 262, 263, 264, 518, 519, 774, 775, 1019};
        for (int size : sizes) {
            dueSend(size, size - 8, false);
            dueSend(size, size - 7, true);
            dueSend(size, size - 6, false);
        }
    }

    private static void longest() {
        dueSend(1023, 1015, false);
        dueSend(1023, 1016, true);
        dueSend(1023, 1017, false);
        dueSend(1024, 1016, false);
        dueSend(1024, 1017, true);
        dueSend(1024, 1018, false);
    }

    /** Both bytes count, and neither has a sign. */
    private static void saysFarTooMuch() {
        int[] tooMuch = {128, 255, 256, 512, 32768, 65280, 65535};
        for (int more : tooMuch) {
            dueSend(7, more, false);
        }
        dueSend(263, 0, false);
        dueSend(270, 7, false);
        dueSend(14, 256 + 7, false);
        dueSend(14, 7 * 256, false);
        dueSend(1024, 65535, false);
    }

    private static void dueSend(int size, int says, boolean isPacket) {
        for (int c = 0; c < 2; c++) {
            DownFrames x = new DownFrames(64);
            x.frame(5);
            Due.give(x, tape(size, says));
            int[] want = Due.seen(x);
            want[4] = 0;
            want[6 + c] = isPacket ? size : 0;
            String name = "send(" + c + ") of " + size + " that says " + says;
            Due.due(name, x.send(c), isPacket ? size : DownFrames.NONE);
            Due.dueSeen(name, x, want);
        }
    }

    private static int[] tape(int size, int says) {
        int[] bytes = new int[size];
        if (size > 4) {
            bytes[4] = says / 256;
        }
        if (size > 5) {
            bytes[5] = says % 256;
        }
        return bytes;
    }
}
