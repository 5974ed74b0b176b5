/** At most sixteen answers wait on a line. */
public final class AnswersTest {
    private static final int[] TEST = {104, 1, 6, 0, 1, 0, 0, 0, 0, 170, 85};

    public static void main(String[] args) {
        sixteenMayWait();
        seventeenthIsDoneAllTheSame();
        resetMakesTwo();
        byDone();
        stoppedLinesKeepThem();
        serialDropsIt();
        interrogationIsOne();
        serialDropsInterrogations();
        Check.end();
    }

    private static TelecontrolPost station() {
        TelecontrolPost post = new TelecontrolPost(1);
        post.point(9, 0, 0, false);
        post.point(30, 7, 0, false);
        post.point(40, 7, 0, true);
        post.point(20, 6, 0, false);
        return post;
    }

    /** A connection whose window is full, with so many answers that wait. */
    private static Peer waiting(TelecontrolPost post, int many) {
        Peer peer = Peer.started(post, 0);
        for (int i = 0; i < 12; i++) {
            post.change(0, 1, 0, true);
            peer.takeFrame();
        }
        for (int i = 0; i < many; i++) {
            peer.askConfirming(0, TEST);
        }
        Check.same("answers", post.look(0, 6), many);
        return peer;
    }

    private static void sixteenMayWait() {
        TelecontrolPost post = station();
        Peer peer = waiting(post, 16);
        peer.expectState("open", 2);
        int length = 17;
        Check.same("taken to its end", peer.askConfirming(0, TEST), length);
        peer.expectState("one more closes it", 0);
        Check.same("its answers are gone", post.look(0, 6), 0);
        Check.same("the events count as not sent", post.count(1), 0);
    }

    private static void seventeenthIsDoneAllTheSame() {
        TelecontrolPost post = station();
        Peer peer = waiting(post, 16);
        peer.askConfirming(0, 103, 1, 6, 0, 1, 0, 0, 0, 0, 5, 0, 0, 0, 1, 1, 0);
        peer.expectState("closed", 0);
        Check.same("the clock is set", post.time(), 5);
        TelecontrolPost other = station();
        Peer commanding = waiting(other, 16);
        commanding.askConfirming(0, 45, 1, 6, 0, 1, 0, 30, 0, 0, 1);
        commanding.expectState("closed", 0);
        Check.same("the operation is begun", other.count(3), 1);
        Check.same("it goes on", other.operation(0, 4), 1);
        Check.same("its line", other.operation(0, 3), 0);
        other.open(0);
        Check.same("it is done", other.done(0, true), 1);
        Check.same("and not told", other.look(0, 6), 0);
        TelecontrolPost third = station();
        Peer selecting = waiting(third, 16);
        selecting.askConfirming(0, 45, 1, 6, 0, 1, 0, 40, 0, 0, 129);
        Check.same("what a closed line selected is gone", third.count(4), -1);
        TelecontrolPost fourth = station();
        waiting(fourth, 16).askConfirming(0, 101, 1, 6, 0, 1, 0, 0, 0, 0, 5);
        Peer reading = Peer.started(fourth, 1);
        for (int i = 0; i < 12; i++) {
            reading.takeFrame();
            reading.nextToCome++;
        }
        reading.ask(102, 1, 5, 0, 1, 0, 20, 0, 0);
        reading.expect("the counters were begun", 15, 1, 5, 0, 1, 0, 20, 0, 0, 0, 0, 0, 0, 1);
    }

    private static void resetMakesTwo() {
        TelecontrolPost post = station();
        Peer peer = waiting(post, 14);
        peer.askConfirming(0, 105, 1, 6, 0, 1, 0, 0, 0, 0, 1);
        Check.same("two more", post.look(0, 6), 16);
        TelecontrolPost other = station();
        Peer one = waiting(other, 15);
        one.askConfirming(0, 105, 1, 6, 0, 1, 0, 0, 0, 0, 1);
        one.expectState("the second is one too many", 0);
        TelecontrolPost third = station();
        Peer interrogating = waiting(third, 15);
        interrogating.askConfirming(0, 100, 1, 6, 0, 1, 0, 0, 0, 0, 20);
        Check.same("an interrogation is one", third.look(0, 6), 16);
        interrogating.expectState("open", 2);
    }

    private static void byDone() {
        TelecontrolPost post = station();
        Peer peer = Peer.started(post, 0);
        peer.ask(45, 1, 6, 0, 1, 0, 30, 0, 0, 1);
        peer.expect("begun", 45, 1, 7, 0, 1, 0, 30, 0, 0, 1);
        for (int i = 0; i < 11; i++) {
            post.change(0, 1, 0, true);
            peer.takeFrame();
        }
        for (int i = 0; i < 16; i++) {
            peer.askConfirming(0, TEST);
        }
        Check.same("sixteen", post.look(0, 6), 16);
        Check.same("done", post.done(0, true), 1);
        peer.expectState("one too many", 0);
        Check.same("not going on", post.operation(0, 4), 0);
    }

    private static void stoppedLinesKeepThem() {
        TelecontrolPost post = station();
        Peer peer = waiting(post, 3);
        Peer other = Peer.started(post, 1);
        Check.same("kept", post.look(0, 6), 3);
        peer.confirm(12);
        Check.same("a stopped line sends none", post.look(0, 6), 3);
        other.expectState("started", 2);
        peer.control(7);
        Check.same("sent when it is started again", post.look(0, 6), 0);
    }

    private static void serialDropsIt() {
        int[] test = {104, 1, 6, 1, 0, 170, 85};
        TelecontrolPost post = station();
        Master master = Master.reset(post, 1, 1, 1, 1);
        for (int i = 0; i < 16; i++) {
            master.ask(test);
        }
        Check.same("sixteen", post.look(3, 6), 16);
        master.ask(103, 1, 6, 1, 0, 5, 0, 0, 0, 1, 1, 0);
        Check.same("the one more is not told", post.look(3, 6), 16);
        Check.same("but done", post.time(), 5);
        master.expectShort("and confirmed", 32);
        master.ask(45, 1, 6, 1, 40, 129);
        Check.same("selected", post.count(4), 2);
        master.ask(45, 1, 6, 1, 30, 1);
        Check.same("begun", post.count(3), 1);
        Check.same("done", post.done(0, true), 1);
        Check.same("not told", post.look(3, 6), 16);
        Check.same("reset still", post.look(3, 0), 2);
        master.askClass(1);
        master.expectLong("the first", 8 + 32, 104, 1, 7, 1, 0, 170, 85);
        master.ask(105, 1, 6, 1, 0, 1);
        Check.same("of two one is told", post.look(3, 6), 16);
        for (int i = 0; i < 15; i++) {
            master.askClass(1);
        }
        master.takeAnswer();
        master.askClass(1);
        master.expectLong("the last", 8, 105, 1, 7, 1, 0, 1);
        master.askClass(1);
        master.expectShort("its second was not told", 9);
        master.ask(test);
        master.expectShort("there is room again", 32);
    }

    /** From its 7 to its 10, whatever it has told in between. */
    private static void interrogationIsOne() {
        TelecontrolPost post = station();
        Peer peer = waiting(post, 0);
        peer.askConfirming(0, 100, 1, 6, 0, 1, 0, 0, 0, 0, 20);
        for (int sent = 0; sent <= 3; sent++) {
            Check.same("its frames that went: " + sent, post.look(0, 2), 12 + sent);
            Check.same("answers behind so many: " + sent, post.look(0, 6), sent == 3 ? 0 : 1);
            peer.confirm(sent + 1);
        }
        TelecontrolPost other = station();
        Master master = Master.reset(other, 1, 1, 1, 1);
        master.ask(100, 1, 6, 1, 0, 20);
        Check.same("before its 7", other.look(3, 6), 1);
        master.askClass(1);
        Check.same("behind its 7", other.look(3, 6), 1);
        master.askClass(2);
        Check.same("behind its point", other.look(3, 6), 1);
        master.askClass(1);
        Check.same("behind its 10", other.look(3, 6), 0);
    }

    private static void serialDropsInterrogations() {
        TelecontrolPost post = station();
        Master master = Master.reset(post, 1, 1, 1, 1);
        for (int i = 0; i < 16; i++) {
            master.ask(104, 1, 6, 1, 0, 170, 85);
        }
        master.ask(101, 1, 6, 1, 0, 5);
        master.ask(100, 1, 6, 1, 0, 20);
        Check.same("none of them is told", post.look(3, 6), 16);
        for (int i = 0; i < 16; i++) {
            master.askClass(1);
            master.expectLong("an answer before", i < 15 ? 8 + 32 : 8, 104, 1, 7, 1, 0, 170, 85);
        }
        master.askClass(1);
        master.expectShort("neither 7 nor 10", 9);
        master.askClass(2);
        master.expectShort("nor points", 9);
        master.ask(102, 1, 5, 1, 20);
        master.askClass(1);
        master.expectLong("but the counters were begun", 8, 15, 1, 5, 1, 20, 0, 0, 0, 0, 1);
        master.ask(100, 1, 6, 1, 0, 20);
        master.askClass(1);
        master.expectLong("what was not told does not go on", 8, 100, 1, 7, 1, 0, 20);
    }
}
