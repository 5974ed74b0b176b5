/** Promises 13 and 14: look and count. */
public final class LookCountTest {
    private static final int[] TEST = {104, 1, 6, 0, 1, 0, 0, 0, 0, 170, 85};

    public static void main(String[] args) {
        wrongArguments();
        states();
        numbers();
        serialNumbers();
        counts();
        activeLines();
        Check.end();
    }

    private static void wrongArguments() {
        TelecontrolPost post = new TelecontrolPost(1);
        int[] lines = {-1, 4, Integer.MAX_VALUE, Integer.MIN_VALUE};
        int[] whats = {-1, 7, 8, Integer.MAX_VALUE, Integer.MIN_VALUE};
        for (int line : lines) {
            Check.noArgument("line " + line, () -> post.look(line, 0));
        }
        for (int what : whats) {
            for (int line = 0; line <= 3; line++) {
                int l = line;
                Check.noArgument("look " + what, () -> post.look(l, what));
            }
            Check.noArgument("count " + what, () -> post.count(what));
        }
    }

    private static void states() {
        TelecontrolPost post = new TelecontrolPost(1);
        post.point(9, 0, 0, false);
        for (int line = 0; line <= 2; line++) {
            Check.same("closed", post.look(line, 0), 0);
            post.open(line);
            Check.same("stopped", post.look(line, 0), 1);
            Peer peer = new Peer(post, line);
            peer.start();
            Check.same("started", post.look(line, 0), 2);
            post.change(0, 1, 0, true);
            peer.control(19);
            Check.same("stopping", post.look(line, 0), 3);
            peer.confirm(1);
            Check.same("stopped", post.look(line, 0), 1);
            post.close(line);
            Check.same("closed", post.look(line, 0), 0);
        }
        Check.same("deaf", post.look(3, 0), 0);
        post.serial(1, 1, 1, 1);
        Check.same("not reset", post.look(3, 0), 1);
        new Master(post, 1).shortFrame(64);
        Check.same("reset", post.look(3, 0), 2);
    }

    private static void looks(String what, TelecontrolPost post, int... want) {
        for (int i = 0; i < want.length; i++) {
            Check.same(what + ": look " + (i + 1), post.look(1, i + 1), want[i]);
        }
    }

    private static void numbers() {
        TelecontrolPost post = new TelecontrolPost(1);
        post.point(9, 0, 0, false);
        Peer peer = Peer.started(post, 1);
        looks("started", post, 0, 0, 0, 0, 0, 0);
        post.change(0, 1, 0, true);
        looks("an event was sent", post, 23, 1, 1, 0, 0, 0);
        post.change(0, 0, 0, true);
        peer.takeFrame();
        looks("a frame and a bit were taken", post, 46 - 28, 2, 2, 0, 0, 0);
        peer.askConfirming(1, TEST);
        looks("a question was answered", post, 18 + 17, 3, 2, 1, 0, 0);
        for (int i = 0; i < 10; i++) {
            post.change(0, 1, 0, true);
            while (post.look(1, 1) >= 200) {
                peer.takeFrame();
            }
        }
        looks("the window is full", post, post.look(1, 1), 13, 12, 1, 0, 0);
        peer.askConfirming(1, TEST);
        peer.askConfirming(1, 100, 1, 6, 0, 1, 0, 0, 0, 0, 20);
        looks("two came, two answers wait", post, post.look(1, 1), 13, 12, 3, 2, 2);
        for (int line = 0; line <= 2; line += 2) {
            for (int what = 0; what <= 6; what++) {
                Check.same("other lines", post.look(line, what), 0);
            }
        }
        post.advance(10000);
        looks("what came is confirmed", post, post.look(1, 1), 13, 12, 3, 0, 2);
        post.advance(5000);
        Check.same("closed", post.look(1, 0), 0);
        looks("closed", post, 0, 0, 0, 0, 0, 0);
    }

    private static void serialNumbers() {
        TelecontrolPost post = new TelecontrolPost(1);
        post.point(9, 0, 0, false);
        Master master = Master.reset(post, 1, 2, 2, 3);
        master.ask(TEST);
        post.change(0, 1, 0, true);
        Check.same("bytes wait", post.look(3, 1), 5);
        for (int what = 2; what <= 5; what++) {
            Check.same("look " + what + " of line 3", post.look(3, what), 0);
        }
        Check.same("answers", post.look(3, 6), 1);
        master.askClass(1);
        master.askClass(1);
        Check.same("no answers", post.look(3, 6), 0);
        Check.same("bytes of the event", post.look(3, 1), 6 + 2 + 17);
        for (int what = 2; what <= 5; what++) {
            Check.same("look " + what + " of line 3", post.look(3, what), 0);
        }
    }

    private static void counts() {
        TelecontrolPost post = new TelecontrolPost(1);
        post.point(9, 0, 0, false);
        post.point(30, 7, 0, true);
        post.point(31, 7, 0, false);
        Peer peer = Peer.started(post, 0);
        for (int i = 0; i < 61; i++) {
            post.change(0, 1, 0, true);
        }
        Check.same("in the queue", post.count(0), 48);
        Check.same("lost", post.count(2), 13);
        Check.same("sent: twelve frames of 23 are 276 bytes", post.count(1), 12);
        peer.takeFrame();
        Check.same("sent", post.count(1), 12);
        peer.askConfirming(5, 45, 1, 6, 0, 1, 0, 30, 0, 0, 128);
        Check.same("five are gone", post.count(0), 43);
        Check.same("selected", post.count(4), 1);
        Check.same("operations", post.count(3), 0);
        peer.askConfirming(5, 45, 1, 6, 0, 1, 0, 31, 0, 0, 0);
        Check.same("operations", post.count(3), 1);
        post.done(0, true);
        Check.same("operations ever", post.count(3), 1);
        Check.same("the clock is not set", post.count(6), 0);
        post.clock(0);
        Check.same("the clock is set", post.count(6), 1);
        post.advance(9999);
        Check.same("selected still", post.count(4), 1);
        post.advance(1);
        Check.same("not selected", post.count(4), -1);
        Check.same("lost ever", post.count(2), 13);
    }

    private static void activeLines() {
        TelecontrolPost post = new TelecontrolPost(1);
        Check.same("none", post.count(5), -1);
        post.open(0);
        post.open(2);
        Check.same("none is started", post.count(5), -1);
        post.serial(1, 1, 1, 1);
        Check.same("line 3 is not reset", post.count(5), -1);
        new Peer(post, 2).start();
        Check.same("line 2", post.count(5), 2);
        new Master(post, 1).shortFrame(64);
        Check.same("line 2 before line 3", post.count(5), 2);
        new Peer(post, 0).start();
        Check.same("the latest", post.count(5), 0);
        post.close(2);
        Check.same("the latest still", post.count(5), 0);
        new Peer(post, 0).control(19);
        Check.same("line 3", post.count(5), 3);
        new Peer(post, 0).control(7);
        Check.same("line 0 again", post.count(5), 0);
        post.close(0);
        Check.same("line 3 again", post.count(5), 3);
        post.serial(1, 1, 1, 1);
        Check.same("none", post.count(5), -1);
    }
}
