/** Promises 7 and 8: open and close. */
public final class OpenCloseTest {
    private static final int[] NO_LINES = {-1, 3, 4, Integer.MAX_VALUE, Integer.MIN_VALUE};

    public static void main(String[] args) {
        wrongLines();
        openAndClose();
        openIsFresh();
        closeForgets();
        othersStay();
        stoppingOnes();
        Check.end();
    }

    private static void wrongLines() {
        TelecontrolPost post = new TelecontrolPost(1);
        post.serial(1, 1, 1, 1);
        for (int line : NO_LINES) {
            Check.noArgument("open " + line, () -> post.open(line));
            Check.noArgument("close " + line, () -> post.close(line));
        }
    }

    private static void openAndClose() {
        TelecontrolPost post = new TelecontrolPost(1);
        for (int line = 0; line <= 2; line++) {
            int l = line;
            Check.noState("close of a closed one", () -> post.close(l));
            post.open(line);
            Check.same("stopped", post.look(line, 0), 1);
            Check.noState("open of an open one", () -> post.open(l));
            Peer peer = new Peer(post, line);
            peer.start();
            Check.noState("open of a started one", () -> post.open(l));
            Check.same("started", post.look(line, 0), 2);
            post.close(line);
            Check.same("closed", post.look(line, 0), 0);
            Check.noState("close again", () -> post.close(l));
            Check.noState("nothing comes on a closed one", () -> post.receive(l, 104, 1));
            post.open(line);
            Check.same("open again", post.look(line, 0), 1);
        }
    }

    private static void openIsFresh() {
        TelecontrolPost post = new TelecontrolPost(1);
        Peer peer = Peer.started(post, 0);
        peer.ask(104, 1, 6, 0, 1, 0, 0, 0, 0, 170, 85);
        peer.give(104, 4, 67);
        Check.same("one was sent", post.look(0, 2), 1);
        Check.same("one came", post.look(0, 4), 1);
        post.close(0);
        post.open(0);
        for (int what = 1; what <= 6; what++) {
            Check.same("look " + what + " of a line that is opened again", post.look(0, what), 0);
        }
        whatCameIsForgotten();
        Peer fresh = new Peer(post, 0);
        fresh.start();
        fresh.ask(104, 1, 6, 0, 1, 0, 0, 0, 0, 170, 85);
        fresh.expect("numbers begin with 0", 104, 1, 7, 0, 1, 0, 0, 0, 0, 170, 85);
    }

    private static void whatCameIsForgotten() {
        TelecontrolPost post = new TelecontrolPost(1);
        post.point(5, 0, 0, false);
        Peer peer = Peer.started(post, 0);
        for (int i = 0; i < 12; i++) {
            post.change(0, 1, 0, true);
            peer.takeFrame();
        }
        peer.askConfirming(0, 104, 1, 6, 0, 1, 0, 0, 0, 0, 170, 85);
        Check.same("one came that is not confirmed", post.look(0, 5), 1);
        post.close(0);
        Check.same("closed", post.look(0, 5), 0);
        post.open(0);
        Check.same("opened again", post.look(0, 5), 0);
        post.advance(10000);
        Check.same("nothing is confirmed", post.look(0, 1), 0);
    }

    private static void closeForgets() {
        TelecontrolPost post = new TelecontrolPost(1);
        post.point(5, 0, 0, false);
        post.point(30, 7, 0, true);
        post.point(31, 7, 0, false);
        Peer peer = Peer.started(post, 0);
        post.change(0, 1, 0, true);
        peer.askConfirming(0, 45, 1, 6, 0, 1, 0, 30, 0, 0, 129);
        peer.askConfirming(0, 45, 1, 6, 0, 1, 0, 31, 0, 0, 1);
        Check.same("sent", post.count(1), 1);
        Check.same("selected", post.count(4), 1);
        post.close(0);
        Check.same("not sent", post.count(1), 0);
        Check.same("in the queue still", post.count(0), 1);
        Check.same("not selected", post.count(4), -1);
        Check.same("no active line", post.count(5), -1);
        for (int what = 0; what <= 6; what++) {
            Check.same("look " + what + " of a closed line", post.look(0, what), 0);
        }
        Check.same("nothing to take", post.take(0), 0);
        Check.same("the operation goes on", post.operation(0, 4), 1);
        post.open(0);
        Peer again = new Peer(post, 0);
        again.start();
        again.expect("the event goes again", 30, 1, 3, 0, 1, 0, 5, 0, 0, 1, 0, 0, 128, 0, 193, 1, 0);
        Check.same("done", post.done(0, true), 2);
        again.expectNothing("what a line had before it was closed does not come back");
    }

    private static void othersStay() {
        TelecontrolPost post = new TelecontrolPost(1);
        post.point(30, 7, 0, true);
        post.open(0);
        Peer peer = Peer.started(post, 1);
        peer.ask(45, 1, 6, 0, 1, 0, 30, 0, 0, 129);
        post.close(0);
        Check.same("selected by the other line", post.count(4), 0);
        Check.same("the other line is active", post.count(5), 1);
        peer.expect("its answer waits", 45, 1, 7, 0, 1, 0, 30, 0, 0, 129);
    }

    private static void stoppingOnes() {
        TelecontrolPost post = new TelecontrolPost(1);
        post.point(5, 0, 0, false);
        Peer peer = Peer.started(post, 2);
        post.change(0, 1, 0, true);
        peer.control(19);
        peer.expectState("stopping", 3);
        Check.noState("a stopping one is not closed", () -> post.open(2));
        peer.expectState("stopping still", 3);
        post.close(2);
        peer.expectState("closed", 0);
        Check.same("its event counts as not sent", post.count(1), 0);
        Check.noState("it is closed", () -> post.close(2));
    }
}
