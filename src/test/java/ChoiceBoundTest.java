/** Promise 4: a frame of channel 0 if a byte waits there, else of 1 if one does, else of 7. */
public final class ChoiceBoundTest {
    public static void main(String[] args) {
        oneByte();
        fieldEndsWithWhatWaits();
        oneByteBehindTheField();
        tapeDoesNotWait();
        Due.end();
    }

    /** The least that can wait: the last byte of an empty packet of 7, where 6 bytes of a field were left. */
    private static void oneByte() {
        int[] lengths = {64, 256};
        for (int length : lengths) {
            for (int c = 0; c < 2; c++) {
                DownFrames x = new DownFrames(length);
                Due.send(x, c, Due.packet(length - 12 - 6, 0));
                Due.due("frame", x.frame(0), c);
                Due.due("waiting", x.waiting(c), 1);
                if (c == 0) {
                    Due.send(x, 1, Due.packet(1024, 0));
                }
                Due.due("frame where one byte waits in " + c, x.frame(0), c);
                Due.due("its channel in the frame", x.byteAt(1), 0xA1 + 2 * c);
                Due.due("waiting", x.waiting(c), 0);
                Due.due("frame where none waits in " + c, x.frame(0), c == 0 ? 1 : 7);
            }
        }
    }

    private static void fieldEndsWithWhatWaits() {
        DownFrames x = new DownFrames(64);
        Due.send(x, 1, Due.packet(52, 0));
        Due.send(x, 0, Due.packet(52, 0));
        dueChannels("52 bytes in each", x, 0, 1, 7, 7);
    }

    private static void oneByteBehindTheField() {
        DownFrames x = new DownFrames(64);
        Due.send(x, 1, Due.packet(53, 0));
        Due.send(x, 0, Due.packet(53, 0));
        dueChannels("53 bytes in each", x, 0, 0, 1, 1, 7);
        Due.send(x, 1, Due.packet(53, 0));
        dueChannels("53 bytes in 1", x, 1);
        Due.send(x, 0, Due.packet(7, 0));
        dueChannels("7 bytes in 0 then", x, 0, 1, 7);
    }

    private static void tapeDoesNotWait() {
        DownFrames x = new DownFrames(64);
        Due.give(x, Due.packet(7, 0));
        dueChannels("a packet on the tape", x, 7);
        x.send(1);
        Due.give(x, Due.packet(7, 0));
        dueChannels("one in 1, one on the tape", x, 1, 7);
        x.send(0);
        dueChannels("one in 0", x, 0, 7);
    }

    private static void dueChannels(String name, DownFrames x, int... channels) {
        for (int i = 0; i < channels.length; i++) {
            Due.due(name + ", frame " + i, x.frame(0), channels[i]);
            Due.due(name + ", byteAt(1) of frame " + i, x.byteAt(1), 0xA1 + 2 * channels[i]);
        }
    }
}
