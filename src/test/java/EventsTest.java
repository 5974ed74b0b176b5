/** The queue of events that all lines share (terms of promises 4, 9 and 14). */
public final class EventsTest {
    public static void main(String[] args) {
        fullQueue();
        fullQueueWithSentOnes();
        answersGoFirst();
        anotherLineBecomesActive();
        oldLineConfirmsNothing();
        oldNumbersConfirmNothing();
        originIsNone();
        stoppedLineConfirmsStill();
        serialBecomesActive();
        serialConfirmsByNextBit();
        serialConfirmsTheOnlyOne();
        closedLineGivesBack();
        resetGivesBack();
        Check.end();
    }

    private static TelecontrolPost withPoint() {
        TelecontrolPost post = new TelecontrolPost(1);
        post.point(9, 4, 0, false);
        return post;
    }

    private static int[] event(int value) {
        return new int[] {35, 1, 3, 0, 1, 0, 9, 0, 0, value, 0, 0, 0, 0, 128, 0, 193, 1, 0};
    }

    private static int[] shortEvent(int value) {
        return new int[] {35, 1, 3, 1, 9, value, 0, 0, 0, 0, 128, 0, 193, 1, 0};
    }

    private static void counts(String what, TelecontrolPost post, int many, int sent, int lost) {
        Check.same(what + ": in the queue", post.count(0), many);
        Check.same(what + ": sent", post.count(1), sent);
        Check.same(what + ": lost", post.count(2), lost);
    }

    private static void fullQueue() {
        TelecontrolPost post = withPoint();
        for (int i = 0; i < 48; i++) {
            post.change(0, i, 0, true);
        }
        counts("48", post, 48, 0, 0);
        post.change(0, 48, 0, true);
        counts("49", post, 48, 0, 1);
        post.change(0, 49, 0, true);
        post.change(0, 50, 0, false);
        counts("50", post, 48, 0, 2);
        Peer peer = Peer.started(post, 0);
        for (int i = 2; i < 50; i++) {
            peer.expect("the oldest two are lost", event(i));
            peer.confirm();
        }
        counts("all are gone", post, 0, 0, 2);
    }

    private static void fullQueueWithSentOnes() {
        TelecontrolPost post = withPoint();
        Peer peer = Peer.started(post, 0);
        for (int i = 0; i < 48; i++) {
            post.change(0, i, 0, true);
            if (i < 12) {
                peer.expect("sent", event(i));
            }
        }
        counts("48", post, 48, 12, 0);
        post.change(0, 48, 0, true);
        counts("the oldest that was not sent is lost", post, 48, 12, 1);
        fullQueueOfAClosedLine();
        peer.confirm();
        for (int i = 13; i < 25; i++) {
            peer.expect("the 13th is lost", event(i));
        }
        counts("twelve are confirmed, twelve more sent", post, 36, 12, 1);
    }

    private static void fullQueueOfAClosedLine() {
        TelecontrolPost post = withPoint();
        Peer.started(post, 0);
        for (int i = 0; i < 50; i++) {
            post.change(0, i, 0, true);
        }
        Check.isTrue("some are sent", post.count(1) > 0);
        post.close(0);
        counts("all count as not sent", post, 48, 0, 2);
        post.change(0, 50, 0, true);
        counts("the oldest of all is lost", post, 48, 0, 3);
        Peer.started(post, 1).expect("so the second is first", event(1));
    }

    private static void answersGoFirst() {
        TelecontrolPost post = withPoint();
        Peer peer = Peer.started(post, 0);
        for (int i = 0; i < 14; i++) {
            post.change(0, i, 0, true);
            peer.nextToCome += i < 12 ? 1 : 0;
        }
        while (post.look(0, 1) > 0) {
            peer.takeFrame();
        }
        peer.askConfirming(0, 104, 1, 6, 0, 1, 0, 0, 0, 0, 170, 85);
        peer.askConfirming(0, 104, 1, 6, 0, 1, 0, 0, 0, 0, 170, 86);
        peer.confirm(12);
        peer.expect("the first answer", 104, 1, 7, 0, 1, 0, 0, 0, 0, 170, 85);
        peer.expect("the second answer", 104, 1, 71, 0, 1, 0, 0, 0, 0, 170, 86);
        peer.expect("then the events", event(12));
        peer.expect("in order", event(13));
        peer.expectNothing("no more");
    }

    private static void anotherLineBecomesActive() {
        TelecontrolPost post = withPoint();
        Peer first = Peer.started(post, 0);
        post.change(0, 1, 0, true);
        post.change(0, 2, 0, true);
        first.expect("on the first line", event(1));
        counts("both are sent", post, 2, 2, 0);
        Peer second = Peer.started(post, 1);
        counts("sent again", post, 2, 2, 0);
        second.expect("again, the first", event(1));
        second.expect("again, the second", event(2));
        first.expect("what waited on the old line stays", event(2));
        post.change(0, 3, 0, true);
        second.expect("new ones go to the active line", event(3));
        first.expectNothing("not to the other one");
        second.confirm();
        counts("confirmed", post, 0, 0, 0);
    }

    private static void oldLineConfirmsNothing() {
        TelecontrolPost post = withPoint();
        Peer first = Peer.started(post, 0);
        post.change(0, 1, 0, true);
        first.expect("on the first line", event(1));
        Peer second = Peer.started(post, 1);
        first.confirm();
        first.expectState("the old line is open", 1);
        Check.same("its frame is confirmed", post.look(0, 3), 0);
        counts("the event is not", post, 1, 1, 0);
        second.expect("on the second line", event(1));
        second.confirm();
        counts("it is now", post, 0, 0, 0);
    }

    private static void stoppedLineConfirmsStill() {
        TelecontrolPost post = withPoint();
        Peer peer = Peer.started(post, 0);
        post.change(0, 1, 0, true);
        post.change(0, 2, 0, true);
        peer.expect("one", event(1));
        peer.expect("two", event(2));
        peer.control(19);
        counts("sent still", post, 2, 2, 0);
        peer.confirm(1);
        counts("confirmed there though it is not active", post, 1, 1, 0);
        peer.control(7);
        peer.expectControl("started again", 11);
        peer.expectNothing("the same line: nothing goes again");
        counts("sent still", post, 1, 1, 0);
        peer.confirm(2);
        counts("confirmed", post, 0, 0, 0);
    }

    private static void serialBecomesActive() {
        TelecontrolPost post = withPoint();
        Master master = Master.reset(post, 1, 1, 1, 1);
        Check.same("line 3 is active", post.count(5), 3);
        Peer peer = Peer.started(post, 0);
        Check.same("the connection is active", post.count(5), 0);
        post.change(0, 1, 0, true);
        peer.expect("to the connection", event(1));
        master.askClass(1);
        master.expectShort("line 3 is not active", 9);
        peer.control(19);
        Check.same("line 3 is active again", post.count(5), 3);
        counts("not sent there", post, 1, 0, 0);
        peer.confirm();
        peer.expectControl("stopped", 35);
        counts("the old line confirms nothing", post, 1, 0, 0);
        master.askClass(2);
        master.expectShort("there is something of class 1", 9 + 32);
        master.askClass(1);
        master.expectLong("the event", 8, shortEvent(1));
        counts("sent", post, 1, 1, 0);
        TelecontrolPost other = withPoint();
        Peer stopping = Peer.started(other, 0);
        other.change(0, 1, 0, true);
        stopping.control(19);
        counts("sent on a stopping line", other, 1, 1, 0);
        Master.reset(other, 1, 1, 1, 1);
        counts("line 3 becomes active by its reset", other, 1, 0, 0);
    }

    private static void serialConfirmsByNextBit() {
        TelecontrolPost post = withPoint();
        Master master = Master.reset(post, 1, 1, 1, 1);
        post.change(0, 1, 0, true);
        post.change(0, 2, 0, true);
        counts("nobody asked", post, 2, 0, 0);
        master.askClass(1);
        master.expectLong("the first, and there is more", 8 + 32, shortEvent(1));
        counts("one is sent", post, 2, 1, 0);
        master.askClassAgain(1);
        master.expectLong("the same again", 8 + 32, shortEvent(1));
        counts("one is sent", post, 2, 1, 0);
        master.shortFrame(64 + 9);
        master.expectShort("the state", 11 + 32);
        counts("a frame without FCV confirms nothing", post, 2, 1, 0);
        master.longFrame(64 + 32 + 4, 104);
        counts("nor does one with data and without FCV", post, 2, 1, 0);
        master.askClass(2);
        master.expectShort("class 2 confirms it", 9 + 32);
        counts("one is gone", post, 1, 0, 0);
        master.askClass(1);
        master.expectLong("the second, and there is no more", 8, shortEvent(2));
        counts("it is sent", post, 1, 1, 0);
        Peer peer = Peer.started(post, 0);
        peer.expect("another line becomes active", event(2));
        master.askClass(1);
        master.expectShort("line 3 has none", 9);
        counts("and confirms none", post, 1, 1, 0);
        peer.confirm();
        counts("the connection does", post, 0, 0, 0);
    }

    private static void closedLineGivesBack() {
        TelecontrolPost post = withPoint();
        Peer peer = Peer.started(post, 0);
        post.change(0, 1, 0, true);
        Master master = Master.reset(post, 1, 1, 1, 1);
        counts("sent on the connection", post, 1, 1, 0);
        post.close(0);
        counts("not sent", post, 1, 0, 0);
        Check.same("line 3 is active", post.count(5), 3);
        master.askClass(1);
        master.expectLong("it goes there", 8, shortEvent(1));
        Check.same("of the connection nothing waits", post.look(0, 1), 0);
        peer.expectState("closed", 0);
    }

    private static void resetGivesBack() {
        TelecontrolPost post = withPoint();
        Master master = Master.reset(post, 1, 1, 1, 1);
        post.change(0, 1, 0, true);
        master.askClass(1);
        master.expectLong("sent", 8, shortEvent(1));
        counts("sent", post, 1, 1, 0);
        master.shortFrame(64);
        master.expectShort("reset: it is of class 1 again", 32);
        counts("not sent", post, 1, 0, 0);
        master.reset();
        master.askClass(1);
        master.expectLong("sent again", 8, shortEvent(1));
        Peer peer = Peer.started(post, 0);
        counts("sent on the connection", post, 1, 1, 0);
        master.reset();
        counts("a reset leaves what a connection was sent", post, 1, 1, 0);
        peer.expect("it went there", event(1));
    }

    /** A line that becomes active again sends them anew: what confirms its older frames is not theirs. */
    private static void oldNumbersConfirmNothing() {
        TelecontrolPost post = withPoint();
        Peer first = Peer.started(post, 0);
        post.change(0, 1, 0, true);
        first.expect("as number 0", event(1));
        Peer second = Peer.started(post, 1);
        second.expect("on the second line", event(1));
        first.start();
        first.expect("again, as number 1", event(1));
        counts("sent", post, 1, 1, 0);
        second.confirm();
        counts("the second line is the old one now", post, 1, 1, 0);
        first.confirm(1);
        Check.same("number 0 is confirmed", post.look(0, 3), 1);
        counts("the event is not", post, 1, 1, 0);
        first.confirm(2);
        counts("it is now", post, 0, 0, 0);
    }

    private static void originIsNone() {
        TelecontrolPost post = withPoint();
        Peer peer = Peer.started(post, 0);
        peer.ask(104, 1, 6, 9, 1, 0, 0, 0, 0, 170, 85);
        peer.expect("an answer has the origin", 104, 1, 7, 9, 1, 0, 0, 0, 0, 170, 85);
        post.change(0, 1, 0, true);
        peer.expect("an event has 0", event(1));
        Master master = Master.reset(post, 1, 2, 2, 3);
        peer.confirm();
        post.close(0);
        master.ask(104, 1, 6, 9, 1, 0, 0, 0, 0, 170, 85);
        post.change(0, 2, 0, true);
        master.askClass(1);
        master.expectLong("an answer has the origin", 8 + 32, 104, 1, 7, 9, 1, 0, 0, 0, 0, 170, 85);
        master.askClass(1);
        master.expectLong("an event has 0", 8, event(2));
    }

    private static void serialConfirmsTheOnlyOne() {
        TelecontrolPost post = withPoint();
        Master master = Master.reset(post, 1, 1, 1, 1);
        int[] confirming = {1, 2, 3};
        for (int how : confirming) {
            post.change(0, how, 0, true);
            master.askClass(1);
            master.expectLong("the only one", 8, shortEvent(how));
            counts("it is sent", post, 1, 1, 0);
            if (how == 3) {
                master.ask(104, 1, 6, 1, 0, 170, 85);
            } else {
                master.askClass(how);
            }
            counts("confirmed by the next frame of sort " + how, post, 0, 0, 0);
        }
    }
}
