public final class Example {
    public static void main(String[] args) {
        DownFrames down = new DownFrames(64);
        System.out.println("LENGTH is " + down.count(5));

        // A packet of 10 bytes: its bytes 4 and 5 say 3, for 4 bytes are behind the first six.
        System.out.println("give answers " + down.give(0x0801C00000030A0BL, 8));
        System.out.println("give answers " + down.give(0x0C0D000000000000L, 2));
        System.out.println("the tape has " + down.count(4));
        System.out.println("send answers " + down.send(0));
        System.out.println("the tape has " + down.count(4));

        System.out.println("frame answers " + down.frame(0x01020304));
        printLatest(down);
        System.out.println("waiting answers " + down.waiting(0));

        System.out.println("frame answers " + down.frame(0x01020304));
        printLatest(down);
        System.out.println("frames: " + down.count(0) + ", of channel 0: " + down.count(1)
            + ", of 1: " + down.count(2) + ", of 7: " + down.count(3));

        System.out.println("give answers " + down.give(0L, 9));
        System.out.println("send answers " + down.send(0));
        System.out.println("byteAt answers " + down.byteAt(64));
    }

    private static void printLatest(DownFrames down) {
        for (int k = 0; k < down.count(5); k++) {
            System.out.print(String.format("%02X", down.byteAt(k)) + (k % 16 == 15 ? "\n" : " "));
        }
    }
}
