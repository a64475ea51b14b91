/** Terms: the tape has at most 1,024 bytes. Promise 2: false, changing nothing, if there is no room. */
public final class TapeBoundTest {
    private static final int ROOM = 1024;

    public static void main(String[] args) {
        for (int n = 1; n <= 8; n++) {
            taken(ROOM - n - 1, n);
            taken(ROOM - n, n);
            refused(ROOM - n + 1, n);
            refused(ROOM, n);
        }
        for (int frames = 1; frames <= 5; frames++) {
            bytesStayAfterRefusal(frames);
        }
        roomAgainAfterSend();
        Due.end();
    }

    private static void taken(int has, int n) {
        DownFrames x = new DownFrames(64);
        Due.give(x, new int[has]);
        String name = "give of " + n + " to a tape of " + has;
        Due.due(name, x.give(-1L, n), true);
        Due.due(name + ", count(4)", x.count(4), has + n);
    }

    private static void refused(int has, int n) {
        DownFrames x = new DownFrames(64);
        x.frame(5);
        Due.give(x, new int[has]);
        int[] before = Due.seen(x);
        String name = "give of " + n + " to a tape of " + has;
        Due.due(name, x.give(-1L, n), false);
        Due.dueSeen(name, x, before);
    }

    /** A full tape is one packet still, after gives that were refused; its bytes are looked at frame by frame. */
    private static void bytesStayAfterRefusal(int frames) {
        DownFrames x = new DownFrames(256);
        int[] packet = Due.packet(ROOM, 50);
        Due.give(x, packet);
        for (int n = 1; n <= 8; n++) {
            Due.due("give of " + n + " to a full tape", x.give(-1L, n), false);
        }
        Due.due("send of a full tape", x.send(0), ROOM);
        for (int i = 0; i < frames; i++) {
            x.frame(0);
        }
        int[] sent = Due.joined(packet, Due.emptyPacket(5 * 244 - ROOM));
        for (int i = 0; i < 244; i++) {
            int at = (frames - 1) * 244 + i;
            Due.due("byte " + at + " of a full tape", x.byteAt(6 + i), sent[at]);
        }
    }

    private static void roomAgainAfterSend() {
        int[] channels = {0, 1, 2};
        for (int c : channels) {
            DownFrames x = new DownFrames(64);
            Due.give(x, Due.packet(ROOM, 1));
            x.send(c);
            Due.give(x, Due.packet(ROOM, 2));
            Due.due("count(4) of a tape filled again", x.count(4), ROOM);
            Due.due("give to a tape filled again", x.give(0L, 1), false);
        }
    }
}
