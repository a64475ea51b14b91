/**
 * Terms: a channel has at most 4,096 bytes that wait. Promise 3: NONE if they have no room.
 * Eight bytes a give can't fill a channel in 512 calls, so all but the first test go on beyond
 * what is promised, where a channel that is too full would do harm all the same.
 */
public final class ChannelBoundTest {
    private static final int ROOM = 4096;

    public static void main(String[] args) {
        for (int c = 0; c < 2; c++) {
            mostWithin512Calls(c);
            int[] sizes = {7, 8, 500, 1023, 1024};
            for (int size : sizes) {
                taken(c, ROOM - size - 1, size);
                taken(c, ROOM - size, size);
                refused(c, ROOM - size + 1, size);
            }
            refused(c, ROOM, 7);
            refused(c, ROOM, 1024);
            roomAgainAfterFrame(c);
            for (int before = 0; before <= 3; before++) {
                bytesOfAFullChannel(c, before);
            }
        }
        Due.end();
    }

    /** 3 * 129 calls send 1,024 bytes each, 124 + 1 calls 992 more: 512 calls. */
    private static void mostWithin512Calls(int c) {
        DownFrames x = new DownFrames(64);
        for (int i = 1; i <= 3; i++) {
            Due.due("send " + i + " of 1024", Due.send(x, c, Due.packet(1024, i)), 1024 * i);
        }
        Due.due("send of 992", Due.send(x, c, Due.packet(992, 4)), 4064);
    }

    private static void taken(int c, int waits, int size) {
        DownFrames x = new DownFrames(64);
        fill(x, c, waits);
        String name = "send(" + c + ") of " + size + " behind " + waits;
        Due.due(name, Due.send(x, c, Due.packet(size, 0)), waits + size);
        Due.due(name + ", waiting", x.waiting(c), waits + size);
        Due.due(name + ", waiting of the other", x.waiting(1 - c), 0);
        Due.due(name + ", count(4)", x.count(4), 0);
    }

    private static void refused(int c, int waits, int size) {
        DownFrames x = new DownFrames(64);
        x.frame(5);
        fill(x, c, waits);
        Due.give(x, Due.packet(size, 0));
        int[] before = Due.seen(x);
        String name = "send(" + c + ") of " + size + " behind " + waits;
        Due.due(name, x.send(c), DownFrames.NONE);
        Due.dueOnlyTapeEmptied(name, x, before);
        Due.due(name + ", then to the other", Due.send(x, 1 - c, Due.packet(size, 0)), size);
    }

    /** A frame of 64 takes 52 bytes: a packet of 52 has room then, one of 53 has not. */
    private static void roomAgainAfterFrame(int c) {
        DownFrames x = new DownFrames(64);
        fill(x, c, ROOM);
        Due.due("frame", x.frame(0), c);
        Due.due("waiting", x.waiting(c), ROOM - 52);
        Due.due("send of 53", Due.send(x, c, Due.packet(53, 0)), DownFrames.NONE);
        Due.due("send of 52", Due.send(x, c, Due.packet(52, 0)), ROOM);
        Due.due("send of 7", Due.send(x, c, Due.packet(7, 0)), DownFrames.NONE);
    }

    /** Frames that went before put the bytes at other places of the object's row. */
    private static void bytesOfAFullChannel(int c, int before) {
        DownFrames x = new DownFrames(256);
        for (int i = 0; i < before; i++) {
            Due.send(x, c, Due.packet(244, i));
            x.frame(0);
        }
        int[] sent = fill(x, c, ROOM);
        Due.send(x, c, Due.packet(100, 99));
        int[] all = Due.joined(sent, Due.emptyPacket(17 * 244 - ROOM));
        for (int f = 0; f < 17; f++) {
            Due.due("frame " + f, x.frame(0), c);
            for (int i = 0; i < 244; i++) {
                Due.due("byte " + (f * 244 + i) + " of a full channel", x.byteAt(6 + i), all[f * 244 + i]);
            }
        }
        Due.due("waiting after all frames", x.waiting(c), 0);
    }

    /** Sends packets until so many bytes wait; the last two share what is left, so that both have 7. */
    private static int[] fill(DownFrames x, int c, int waits) {
        int[] sent = {};
        while (sent.length < waits) {
            int left = waits - sent.length;
            int[] packet = Due.packet(left <= 1024 ? left : Math.min(1024, left - 7), sent.length);
            sent = Due.joined(sent, packet);
            Due.due("send while filling", Due.send(x, c, packet), sent.length);
        }
        return sent;
    }
}
