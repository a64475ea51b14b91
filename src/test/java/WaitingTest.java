/** Promise 6: waiting. */
public final class WaitingTest {
    public static void main(String[] args) {
        DownFrames x = new DownFrames(64);
        wrongChannels(x);
        Due.due("waiting(0)", x.waiting(0), 0);
        Due.due("waiting(1)", x.waiting(1), 0);
        Due.give(x, Due.packet(200, 0));
        Due.due("waiting(0) before send", x.waiting(0), 0);
        x.send(0);
        Due.due("waiting(0) after send", x.waiting(0), 200);
        Due.send(x, 1, Due.packet(45, 0));
        Due.due("waiting(1) after send", x.waiting(1), 45);
        int[] rests = {148, 96, 44, 0};
        for (int rest : rests) {
            x.frame(0);
            Due.due("waiting(0) after a frame", x.waiting(0), rest);
            Due.due("waiting(1) after a frame of 0", x.waiting(1), 45);
            wrongChannels(x);
        }
        x.frame(0);
        Due.due("waiting(1) after its frame", x.waiting(1), 0);
        x.frame(0);
        Due.due("waiting(0) after a frame of 7", x.waiting(0), 0);
        Due.due("waiting(1) after a frame of 7", x.waiting(1), 0);
        Due.end();
    }

    private static void wrongChannels(DownFrames x) {
        int[] wrong = {-1, 2, 3, 7, 256, Integer.MIN_VALUE, Integer.MAX_VALUE};
        for (int c : wrong) {
            Due.due("waiting(" + c + ")", x.waiting(c), DownFrames.NONE);
        }
    }
}
