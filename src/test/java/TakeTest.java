/** Promise 10: take. */
public final class TakeTest {
    public static void main(String[] args) {
        wrongLines();
        nothingWaits();
        upToSeven();
        highBytes();
        serialBytes();
        takingLetsMoreGo();
        Check.end();
    }

    private static void wrongLines() {
        TelecontrolPost post = new TelecontrolPost(1);
        int[] wrong = {-1, 4, Integer.MAX_VALUE, Integer.MIN_VALUE};
        for (int line : wrong) {
            Check.noArgument("line " + line, () -> post.take(line));
        }
    }

    /** A closed line, and line 3 when it is deaf, have nothing; that is no wrong call. */
    private static void nothingWaits() {
        TelecontrolPost post = new TelecontrolPost(1);
        for (int line = 0; line <= 3; line++) {
            Check.same("nothing of line " + line, post.take(line), 0);
        }
        post.open(1);
        Check.same("nothing of an open line", post.take(1), 0);
        new Peer(post, 1).control(67);
        post.close(1);
        Check.same("nothing of a line that was closed", post.take(1), 0);
    }

    private static void upToSeven() {
        TelecontrolPost post = new TelecontrolPost(1);
        post.open(0);
        Peer peer = new Peer(post, 0);
        peer.control(67);
        peer.control(7);
        Check.same("twelve wait", post.look(0, 1), 12);
        Check.same("seven", post.take(0), 0x0768048300000068L);
        Check.same("five wait", post.look(0, 1), 5);
        Check.same("the other lines have none", post.take(1), 0);
        Check.same("five", post.take(0), 0x05040B0000000000L);
        Check.same("none", post.take(0), 0);
        peer.control(19);
        Check.same("one more frame", post.take(0), 0x0668042300000000L);
    }

    private static void highBytes() {
        TelecontrolPost post = new TelecontrolPost(65534);
        Peer peer = Peer.started(post, 1);
        int[] asdu = new int[249];
        java.util.Arrays.fill(asdu, 255);
        peer.ask(asdu);
        Check.same("a frame of 255", post.look(1, 1), 255);
        Check.same("its head", post.take(1), 0x0768FD00000200FFL);
        Check.same("bytes of 255 and a cause", post.take(1), 0x07FFECFFFFFFFFFFL);
        for (int i = 0; i < 34; i++) {
            Check.same("bytes of 255", post.take(1), 0x07FFFFFFFFFFFFFFL);
        }
        Check.same("the last three", post.take(1), 0x03FFFFFF00000000L);
    }

    private static void serialBytes() {
        TelecontrolPost post = new TelecontrolPost(1);
        post.serial(254, 1, 1, 1);
        Master master = new Master(post, 254);
        master.shortFrame(64 + 9);
        Check.same("five of line 3", post.take(3), 0x05100BFE09160000L);
        Check.same("no more", post.take(3), 0);
    }

    private static void takingLetsMoreGo() {
        TelecontrolPost post = new TelecontrolPost(1);
        post.point(9, 5, 0, false);
        Peer peer = Peer.started(post, 0);
        for (int i = 0; i < 12; i++) {
            post.change(0, i, 0, true);
        }
        Check.same("ten frames of 27 go, then 256 or more wait", post.look(0, 2), 10);
        Check.same("270 bytes", post.look(0, 1), 270);
        post.take(0);
        post.take(0);
        Check.same("256 wait", post.look(0, 1), 256);
        post.take(0);
        Check.same("249 waited, one more goes", post.look(0, 1), 276);
        Check.same("eleven", post.look(0, 2), 11);
    }
}
