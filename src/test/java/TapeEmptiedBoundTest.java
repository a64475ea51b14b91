/** Promise 3: the tape is empty then, whatever comes of it. */
public final class TapeEmptiedBoundTest {
    public static void main(String[] args) {
        for (int c = 0; c < 2; c++) {
            emptied("a packet of 7", c, Due.packet(7, 0), true);
            emptied("a packet of 1024", c, Due.packet(1024, 0), true);
            emptied("nothing", c, new int[0], false);
            emptied("one byte", c, new int[1], false);
            emptied("six bytes", c, new int[6], false);
            emptied("8 bytes that say 7", c, new int[8], false);
            emptied("1024 bytes that say 7", c, new int[1024], false);
            emptiedWithoutRoom(c);
        }
        int[] wrong = {-1, 2, 7, Integer.MIN_VALUE, Integer.MAX_VALUE};
        for (int c : wrong) {
            emptied("a packet of 7", c, Due.packet(7, 0), false);
            emptied("nothing", c, new int[0], false);
            emptied("8 bytes that say 7", c, new int[8], false);
            emptied("a packet of 1024", c, Due.packet(1024, 0), false);
        }
        Due.end();
    }

    private static void emptied(String name, int c, int[] tape, boolean isTaken) {
        DownFrames x = new DownFrames(64);
        Due.due("send(" + c + ") of " + name, Due.send(x, c, tape), isTaken ? tape.length : DownFrames.NONE);
        dueEmpty("after send(" + c + ") of " + name, x, 0);
        dueEmpty("after send(" + c + ") of " + name, x, 1);
    }

    /** Beyond 512 calls: a channel can't be full before. */
    private static void emptiedWithoutRoom(int c) {
        DownFrames x = new DownFrames(64);
        for (int i = 0; i < 4; i++) {
            Due.send(x, c, Due.packet(1024, i));
        }
        Due.due("send to a full channel", Due.send(x, c, Due.packet(7, 0)), DownFrames.NONE);
        dueEmpty("after send to a full channel", x, 1 - c);
    }

    /** Nothing is on it, nothing of it can be sent again, and the next packet is not behind something. */
    private static void dueEmpty(String name, DownFrames x, int c) {
        int waits = x.waiting(c);
        Due.due(name + ", count(4)", x.count(4), 0);
        Due.due(name + ", send(" + c + ")", x.send(c), DownFrames.NONE);
        Due.due(name + ", waiting(" + c + ")", x.waiting(c), waits);
        Due.due(name + ", send(" + c + ") of 9", Due.send(x, c, Due.packet(9, 1)), waits + 9);
    }
}
