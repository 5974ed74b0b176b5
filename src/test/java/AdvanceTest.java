/** Promise 6: advance, with the timers of connections. */
public final class AdvanceTest {
    public static void main(String[] args) {
        range();
        unconfirmedFrame();
        oldestUnconfirmedCounts();
        unansweredTest();
        confirmingWhatCame();
        testWhenIdle();
        whatIsSentDoesNotCount();
        severalLines();
        orderOnALine();
        timersOfStoppedLines();
        closedByTooManyBytes();
        confirmingClosesByTooManyBytes();
        allThreeAreClosed();
        Check.end();
    }

    private static TelecontrolPost withPoint() {
        TelecontrolPost post = new TelecontrolPost(1);
        post.point(9, 0, 0, false);
        return post;
    }

    private static void range() {
        TelecontrolPost post = new TelecontrolPost(1);
        int[] wrong = {-1, 100001, Integer.MAX_VALUE, Integer.MIN_VALUE};
        for (int time : wrong) {
            Check.noArgument("advance " + time, () -> post.advance(time));
        }
        Check.same("no time went by", post.time(), 0);
        Check.same("advance 0", post.advance(0), 0);
        Check.same("advance 100,000", post.advance(100000), 0);
        Check.same("so much went by", post.time(), 100000);
    }

    private static void unconfirmedFrame() {
        TelecontrolPost post = withPoint();
        Peer peer = Peer.started(post, 0);
        post.change(0, 1, 0, true);
        Check.same("14,999 since it was sent", post.advance(14999), 0);
        peer.expectState("open", 2);
        Check.same("15,000 since it was sent", post.advance(1), 1);
        peer.expectState("closed", 0);
        Check.same("closed once", post.advance(100000), 0);
        Check.same("its event counts as not sent", post.count(1), 0);
        Check.same("its event is in the queue", post.count(0), 1);
        Peer again = Peer.started(post, 0);
        again.nextToCome = 1;
        again.confirm();
        again.expectState("confirmed", 2);
        Check.same("nothing is unconfirmed", post.advance(15000), 0);
    }

    private static void oldestUnconfirmedCounts() {
        TelecontrolPost post = withPoint();
        Peer peer = Peer.started(post, 0);
        post.change(0, 1, 0, true);
        post.advance(10000);
        post.change(0, 0, 0, true);
        peer.confirm(1);
        Check.same("the first one is confirmed", post.advance(14999), 0);
        Check.same("the second one is late", post.advance(1), 1);
        TelecontrolPost other = withPoint();
        Peer.started(other, 0);
        other.change(0, 1, 0, true);
        other.advance(10000);
        other.change(0, 0, 0, true);
        Check.same("the first one is late", other.advance(5000), 1);
    }

    private static void unansweredTest() {
        TelecontrolPost post = withPoint();
        post.open(1);
        Peer peer = new Peer(post, 1);
        Check.same("idle", post.advance(20000), 0);
        peer.expectControl("a test", 67);
        Check.same("not late", post.advance(14999), 0);
        peer.control(67);
        peer.expectControl("the peer's test is answered", 131);
        peer.confirm();
        Check.same("other frames do not answer it", post.advance(1), 1);
        peer.expectState("closed", 0);
        post.open(1);
        post.advance(20000);
        peer.expectControl("a test", 67);
        peer.control(131);
        Check.same("answered", post.advance(19999), 0);
        peer.expectNothing("no test yet");
        Check.same("idle again", post.advance(1), 0);
        peer.expectControl("the next test", 67);
        peer.control(131);
        peer.control(131);
        peer.expectState("an answer to none is ignored", 1);
        Check.same("answered", post.advance(15000), 0);
        post.close(1);
        post.open(1);
        Check.same("a line that is opened again has no test out", post.advance(19999), 0);
        peer.expectNothing("none");
        post.advance(1);
        peer.expectControl("its first test", 67);
    }

    private static void confirmingWhatCame() {
        TelecontrolPost post = withPoint();
        post.advance(70000);
        Peer peer = Peer.started(post, 0);
        for (int i = 0; i < 12; i++) {
            post.change(0, 1, 0, true);
        }
        for (int i = 0; i < 12; i++) {
            peer.takeFrame();
        }
        peer.askConfirming(0, 104, 1, 6, 0, 1, 0, 0, 0, 0, 170, 85);
        Check.same("it can't be answered: the window is full", post.look(0, 6), 1);
        Check.same("one came", post.look(0, 5), 1);
        post.advance(9999);
        peer.expectNothing("9,999 since it came");
        peer.askConfirming(0, 104, 1, 6, 0, 1, 0, 0, 0, 0, 170, 85);
        Check.same("two came", post.look(0, 5), 2);
        post.advance(1);
        peer.expectSupervisory("10,000 since the oldest came");
        Check.same("confirmed", post.look(0, 5), 0);
        post.advance(4999);
        peer.expectNothing("no more");
        peer.expectState("open", 2);
    }

    private static void testWhenIdle() {
        TelecontrolPost post = withPoint();
        post.advance(50000);
        post.open(2);
        Peer peer = new Peer(post, 2);
        post.advance(19999);
        peer.expectNothing("19,999 since it was opened");
        Check.same("a byte comes", post.receive(2, 104, 1), 1);
        post.advance(19999);
        peer.expectNothing("19,999 since a byte came");
        post.advance(1);
        peer.expectControl("20,000 since a byte came", 67);
        post.advance(14999);
        peer.expectNothing("one test alone");
        Check.same("the rest of its answer", Peer.give(post, 2, 4, 131, 0, 0, 0), 5);
        Check.same("it is answered", post.advance(19999), 0);
        Check.same("a long time at once", post.advance(100000), 0);
        peer.expectControl("one test", 67);
        peer.expectNothing("only one");
    }

    private static void severalLines() {
        TelecontrolPost post = withPoint();
        post.open(0);
        post.open(1);
        post.open(2);
        Check.same("tests go", post.advance(20000), 0);
        new Peer(post, 1).control(131);
        Check.same("two are late", post.advance(15000), 2);
        Check.same("line 0 is closed", post.look(0, 0), 0);
        Check.same("line 1 is open", post.look(1, 0), 1);
        Check.same("line 2 is closed", post.look(2, 0), 0);
        post.advance(5000);
        Check.same("the third is late", post.advance(15000), 1);
    }

    private static void orderOnALine() {
        TelecontrolPost post = withPoint();
        Peer peer = Peer.started(post, 0);
        peer.ask(103, 1, 6, 0, 1, 0, 0, 0, 0, 0, 0, 60, 0, 1, 1, 0);
        peer.expect("answered, and so it is confirmed", 103, 1, 71, 0, 1, 0, 0, 0, 0, 0, 0, 60, 0, 1, 1, 0);
        peer.confirm();
        for (int i = 0; i < 12; i++) {
            post.change(0, 1, 0, true);
            peer.takeFrame();
        }
        peer.askConfirming(1, 104, 1, 6, 0, 1, 0, 0, 0, 0, 170, 85);
        peer.confirm(13);
        peer.nextToCome = 13;
        peer.expect("the answer", 104, 1, 7, 0, 1, 0, 0, 0, 0, 170, 85);
        Check.same("late, in one leap past all timers", post.advance(20000), 1);
        Check.same("nothing is sent on a closed line", post.look(0, 1), 0);
        TelecontrolPost other = withPoint();
        Peer quiet = stoppedWithOneThatCame(other);
        other.advance(20000);
        quiet.expectSupervisory("first what came is confirmed");
        quiet.expectControl("then the test", 67);
    }

    /** One I frame came and was not confirmed when the line was stopped. */
    private static Peer stoppedWithOneThatCame(TelecontrolPost post) {
        Peer peer = Peer.started(post, 0);
        for (int i = 0; i < 12; i++) {
            post.change(0, 1, 0, true);
            peer.takeFrame();
        }
        peer.askConfirming(0, 104, 1, 6, 0, 1, 0, 0, 0, 0, 170, 85);
        peer.control(19);
        peer.confirm(12);
        peer.expectControl("stopped", 35);
        Check.same("one came that is not confirmed", post.look(0, 5), 1);
        return peer;
    }

    private static void timersOfStoppedLines() {
        TelecontrolPost post = withPoint();
        Peer first = Peer.started(post, 0);
        post.change(0, 1, 0, true);
        Peer.started(post, 1);
        first.expectState("stopped by the other", 1);
        Check.same("both have an unconfirmed frame", post.advance(15000), 2);
        TelecontrolPost other = withPoint();
        Peer stopping = Peer.started(other, 0);
        other.change(0, 1, 0, true);
        stopping.control(19);
        stopping.expectState("stopping", 3);
        Check.same("a stopping one is closed, too", other.advance(15000), 1);
        stopping.expectState("closed", 0);
    }

    private static void closedByTooManyBytes() {
        TelecontrolPost post = withPoint();
        post.open(0);
        Peer peer = new Peer(post, 0);
        for (int i = 0; i < 166; i++) {
            peer.control(67);
        }
        Check.same("996 bytes wait", post.look(0, 1), 996);
        Check.same("the test is one too many", post.advance(20000), 1);
        peer.expectState("closed", 0);
        Check.same("what waited is gone", post.look(0, 1), 0);
    }

    private static void confirmingClosesByTooManyBytes() {
        TelecontrolPost post = withPoint();
        Peer peer = Peer.started(post, 0);
        for (int i = 0; i < 43; i++) {
            peer.control(67);
        }
        peer.askConfirming(0, 104, 1, 6, 0, 1, 0, 0, 0, 0, 170, 85);
        for (int i = 43; i < 166; i++) {
            peer.control(67);
        }
        Check.same("996 bytes wait", post.look(0, 1), 996);
        Check.same("one came", post.look(0, 5), 1);
        Check.same("not yet", post.advance(9999), 0);
        Check.same("the S frame is one too many", post.advance(1), 1);
        peer.expectState("closed", 0);
    }

    private static void allThreeAreClosed() {
        TelecontrolPost post = withPoint();
        post.serial(1, 1, 1, 1);
        post.open(0);
        post.open(1);
        post.open(2);
        Check.same("tests go", post.advance(100000), 0);
        Check.same("all three are late", post.advance(100000), 3);
        Check.same("line 3 has no timers", post.look(3, 0), 1);
        Check.same("none is left", post.advance(100000), 0);
    }

    /** Only bytes that come put off the test. */
    private static void whatIsSentDoesNotCount() {
        TelecontrolPost post = withPoint();
        Peer peer = Peer.started(post, 0);
        post.advance(10000);
        post.change(0, 1, 0, true);
        peer.takeFrame();
        Check.same("19,999 since bytes came", post.advance(9999), 0);
        peer.expectNothing("no test yet");
        Check.same("20,000 since bytes came", post.advance(1), 0);
        peer.expectControl("a test, though a frame went between", 67);
    }
}
