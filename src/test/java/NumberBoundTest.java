/** Terms: how many frames there were before, and how many of that channel, stand in a frame modulo 256. */
public final class NumberBoundTest {
    public static void main(String[] args) {
        int[] before = {0, 1, 254, 255, 256, 257, 507};
        for (int n : before) {
            ofChannel7(n);
        }
        int[] beforeOfAChannel = {0, 1, 254, 255, 256, 257, 511, 512};
        for (int n : beforeOfAChannel) {
            ofChannel(0, n);
            ofChannel(1, n);
        }
        int[] apart = {1, 255, 256, 257};
        for (int n : apart) {
            eachHasItsOwn(n);
        }
        Due.end();
    }

    private static void ofChannel7(int before) {
        DownFrames x = new DownFrames(64);
        for (int i = 0; i <= before; i++) {
            x.frame(0);
        }
        String name = "behind " + before + " frames of 7";
        Due.due(name + ", byteAt(2)", x.byteAt(2), before % 256);
        Due.due(name + ", byteAt(3)", x.byteAt(3), before % 256);
        Due.due(name + ", count(0)", x.count(0), before + 1);
        Due.due(name + ", count(3)", x.count(3), before + 1);
    }

    /** Three calls a frame (give, send, frame): from 170 frames on, beyond the 512 calls promised. */
    private static void ofChannel(int c, int before) {
        DownFrames x = new DownFrames(64);
        for (int i = 0; i <= before; i++) {
            Due.send(x, c, Due.packet(7, 0));
            Due.due("frame", x.frame(0), c);
        }
        String name = "behind " + before + " frames of " + c;
        Due.due(name + ", byteAt(2)", x.byteAt(2), before % 256);
        Due.due(name + ", byteAt(3)", x.byteAt(3), before % 256);
        Due.due(name + ", count(0)", x.count(0), before + 1);
        Due.due(name + ", count(1 + c)", x.count(1 + c), before + 1);
    }

    /** The number of all goes round, those of channels 0 and 1 stay behind. */
    private static void eachHasItsOwn(int idle) {
        DownFrames x = new DownFrames(64);
        for (int i = 0; i < idle; i++) {
            x.frame(0);
        }
        int all = idle;
        for (int of = 0; of < 2; of++) {
            for (int c = 0; c < 2; c++) {
                Due.send(x, c, Due.packet(7, 0));
                Due.due("frame", x.frame(0), c);
                String name = "frame " + of + " of " + c + " behind " + idle + " of 7";
                Due.due(name + ", byteAt(2)", x.byteAt(2), all % 256);
                Due.due(name + ", byteAt(3)", x.byteAt(3), of);
                all++;
            }
        }
        Due.due("frame", x.frame(0), 7);
        Due.due("byteAt(2)", x.byteAt(2), all % 256);
        Due.due("byteAt(3)", x.byteAt(3), idle % 256);
    }
}
