/** Procedures 100 and 101 on a connection. */
public final class InterrogationTest {
    public static void main(String[] args) {
        wholeStation();
        groups();
        counters();
        wrongBytes();
        longRows();
        asItIsWhenSent();
        whileOneGoesOn();
        nothingToTell();
        ofAClosedLine();
        pointsThatCome();
        testsOriginsAndEachStation();
        counterNumberGoesRound();
        fiveIsAllAndNoGroup();
        countersGoOn();
        Check.end();
    }

    private static TelecontrolPost mixed() {
        TelecontrolPost post = new TelecontrolPost(1);
        post.point(30, 0, 1, false);
        post.point(10, 0, 2, false);
        post.point(20, 1, 1, false);
        post.point(40, 7, 1, false);
        post.point(50, 0, 0, false);
        post.point(45, 6, 1, false);
        post.point(300, 2, 16, false);
        post.point(65535, 3, 1, false);
        post.point(299, 2, 1, false);
        post.point(60000, 6, 4, false);
        post.change(0, 1, 0, false);
        post.change(2, 2, 16, false);
        post.change(5, 7, 128, false);
        post.change(9, -1, 0, false);
        return post;
    }

    private static void wholeStation() {
        Peer peer = Peer.started(mixed(), 0);
        peer.ask(100, 1, 6, 9, 1, 0, 0, 0, 0, 20);
        peer.expect("it comes back", 100, 1, 7, 9, 1, 0, 0, 0, 0, 20);
        peer.expect("the first of kind 0", 1, 1, 20, 9, 1, 0, 10, 0, 0, 0);
        peer.expect("the one of kind 1", 3, 1, 20, 9, 1, 0, 20, 0, 0, 18);
        peer.expect("two that are next to each other, counters and commands aside",
                1, 2, 20, 9, 1, 0, 30, 0, 0, 1, 50, 0, 0, 0);
        peer.expect("two of kind 2", 5, 2, 20, 9, 1, 0, 43, 1, 0, 0, 0, 44, 1, 0, 0, 0);
        peer.expect("the last", 9, 1, 20, 9, 1, 0, 255, 255, 0, 0, 0, 0);
        peer.expect("its end", 100, 1, 10, 9, 1, 0, 0, 0, 0, 20);
        peer.expectNothing("no more");
    }

    private static void groups() {
        Peer peer = Peer.started(mixed(), 0);
        peer.ask(100, 1, 6, 0, 1, 0, 0, 0, 0, 21);
        peer.expect("it comes back", 100, 1, 7, 0, 1, 0, 0, 0, 0, 21);
        peer.expect("kind 1", 3, 1, 21, 0, 1, 0, 20, 0, 0, 18);
        peer.expect("kind 0", 1, 1, 21, 0, 1, 0, 30, 0, 0, 1);
        peer.expect("kind 2", 5, 1, 21, 0, 1, 0, 43, 1, 0, 0, 0);
        peer.expect("kind 3", 9, 1, 21, 0, 1, 0, 255, 255, 0, 0, 0, 0);
        peer.expect("its end", 100, 1, 10, 0, 1, 0, 0, 0, 0, 21);
        peer.confirm();
        peer.ask(100, 1, 6, 0, 1, 0, 0, 0, 0, 36);
        peer.expect("group 16", 100, 1, 7, 0, 1, 0, 0, 0, 0, 36);
        peer.expect("its point", 5, 1, 36, 0, 1, 0, 44, 1, 0, 0, 0);
        peer.expect("its end", 100, 1, 10, 0, 1, 0, 0, 0, 0, 36);
        peer.expectNothing("no more");
        TelecontrolPost post = new TelecontrolPost(1);
        post.point(1, 0, 1, false);
        post.point(11, 1, 2, false);
        post.point(12, 0, 1, false);
        Peer other = Peer.started(post, 0);
        other.ask(100, 1, 6, 0, 1, 0, 0, 0, 0, 21);
        other.takeFrame();
        other.nextToCome++;
        other.expect("next to each other among those of the group", 1, 2, 21, 0, 1, 0, 1, 0, 0, 0, 12, 0, 0, 0);
    }

    private static void counters() {
        TelecontrolPost post = mixed();
        Peer peer = Peer.started(post, 0);
        peer.ask(101, 1, 6, 0, 1, 0, 0, 0, 0, 5);
        peer.expect("it comes back", 101, 1, 7, 0, 1, 0, 0, 0, 0, 5);
        peer.expect("all, with the number of interrogations",
                15, 2, 37, 0, 1, 0, 45, 0, 0, 7, 0, 0, 0, 129, 96, 234, 0, 255, 255, 255, 255, 1);
        peer.expect("its end", 101, 1, 10, 0, 1, 0, 0, 0, 0, 5);
        peer.ask(101, 1, 6, 0, 1, 0, 0, 0, 0, 4);
        peer.expect("group 4", 101, 1, 7, 0, 1, 0, 0, 0, 0, 4);
        peer.expect("its counter", 15, 1, 41, 0, 1, 0, 96, 234, 0, 255, 255, 255, 255, 2);
        peer.expect("its end", 101, 1, 10, 0, 1, 0, 0, 0, 0, 4);
        peer.ask(101, 1, 6, 0, 1, 0, 0, 0, 0, 6);
        peer.expect("a wrong one", 101, 1, 71, 0, 1, 0, 0, 0, 0, 6);
        peer.ask(102, 1, 5, 0, 1, 0, 45, 0, 0);
        peer.expect("a refused one was not begun", 15, 1, 5, 0, 1, 0, 45, 0, 0, 7, 0, 0, 0, 130);
        for (int i = 3; i <= 33; i++) {
            peer.ask(101, 1, 6, 0, 1, 0, 0, 0, 0, 2);
            peer.expect("group 2", 101, 1, 7, 0, 1, 0, 0, 0, 0, 2);
            peer.expect("has no counter", 101, 1, 10, 0, 1, 0, 0, 0, 0, 2);
        }
        peer.ask(102, 1, 5, 0, 1, 0, 45, 0, 0);
        peer.expect("33 were begun, modulo 32", 15, 1, 5, 0, 1, 0, 45, 0, 0, 7, 0, 0, 0, 129);
        peer.expectNothing("a read is told once");
        for (int i = 0; i < 20; i++) {
            peer.ask(104, 1, 6, 0, 1, 0, 0, 0, 0, 170, 85);
            peer.expect("a test", 104, 1, 7, 0, 1, 0, 0, 0, 0, 170, 85);
            peer.expectNothing("is answered once");
        }
    }

    private static void wrongBytes() {
        for (int b = 0; b < 256; b++) {
            TelecontrolPost post = new TelecontrolPost(1);
            Peer peer = Peer.started(post, 0);
            boolean good = b >= 20 && b <= 36;
            peer.ask(100, 1, 6, 0, 1, 0, 0, 0, 0, b);
            peer.expect("interrogation " + b, 100, 1, good ? 7 : 71, 0, 1, 0, 0, 0, 0, b);
            if (good) {
                peer.expect("end " + b, 100, 1, 10, 0, 1, 0, 0, 0, 0, b);
            }
            good = b >= 1 && b <= 5;
            peer.ask(101, 1, 6, 0, 1, 0, 0, 0, 0, b);
            peer.expect("counters " + b, 101, 1, good ? 7 : 71, 0, 1, 0, 0, 0, 0, b);
            if (good) {
                peer.expect("end " + b, 101, 1, 10, 0, 1, 0, 0, 0, 0, b);
            }
            peer.expectNothing("no more");
        }
    }

    /** Of floats 30 fit into 249 bytes, of counters, too. */
    private static void longRows() {
        for (int kind = 5; kind <= 6; kind++) {
            TelecontrolPost post = new TelecontrolPost(1);
            for (int i = 31; i >= 0; i--) {
                post.point(100 + i, kind, 0, false);
            }
            Peer peer = Peer.started(post, 0);
            int type = kind == 5 ? 100 : 101;
            int b = kind == 5 ? 20 : 5;
            peer.ask(type, 1, 6, 0, 1, 0, 0, 0, 0, b);
            peer.expect("it comes back", type, 1, 7, 0, 1, 0, 0, 0, 0, b);
            peer.expect("thirty", row(kind, 100, 30));
            peer.expect("two", row(kind, 130, 2));
            peer.expect("its end", type, 1, 10, 0, 1, 0, 0, 0, 0, b);
        }
    }

    private static int[] row(int kind, int first, int many) {
        int[] asdu = new int[6 + 8 * many];
        asdu[0] = kind == 5 ? 13 : 15;
        asdu[1] = many;
        asdu[2] = kind == 5 ? 20 : 37;
        asdu[4] = 1;
        for (int i = 0; i < many; i++) {
            asdu[6 + 8 * i] = first + i;
            asdu[13 + 8 * i] = kind == 5 ? 0 : 1;
        }
        return asdu;
    }

    private static void asItIsWhenSent() {
        TelecontrolPost post = new TelecontrolPost(1);
        post.point(10, 0, 0, false);
        post.point(11, 6, 0, false);
        Peer peer = Peer.started(post, 0);
        fillWindow(post, peer);
        peer.askConfirming(0, 100, 1, 6, 0, 1, 0, 0, 0, 0, 20);
        post.change(0, 1, 32, false);
        peer.confirm(12);
        peer.nextToCome = 12;
        peer.expect("it comes back", 100, 1, 7, 0, 1, 0, 0, 0, 0, 20);
        peer.expect("as it is now", 1, 1, 20, 0, 1, 0, 10, 0, 0, 33);
        peer.expect("its end", 100, 1, 10, 0, 1, 0, 0, 0, 0, 20);
    }

    /** Twelve frames that nobody confirmed. */
    private static void fillWindow(TelecontrolPost post, Peer peer) {
        for (int i = 0; i < 12; i++) {
            peer.askConfirming(0, 104, 1, 6, 0, 1, 0, 0, 0, 0, 170, 85);
        }
        while (post.look(0, 1) > 0) {
            peer.takeFrame();
        }
        Check.same("the window is full", post.look(0, 3), 12);
        Check.same("nothing waits to be answered", post.look(0, 6), 0);
    }

    private static void whileOneGoesOn() {
        TelecontrolPost post = new TelecontrolPost(1);
        post.point(10, 0, 0, false);
        post.point(11, 1, 0, false);
        Peer peer = Peer.started(post, 0);
        fillWindow(post, peer);
        peer.askConfirming(0, 100, 1, 6, 0, 1, 0, 0, 0, 0, 20);
        Check.same("one answer", post.look(0, 6), 1);
        peer.askConfirming(0, 101, 1, 6, 0, 1, 0, 0, 0, 0, 5);
        peer.askConfirming(0, 100, 1, 6, 0, 1, 0, 0, 0, 0, 22);
        Check.same("three answers", post.look(0, 6), 3);
        peer.confirm(2);
        Check.same("its 7 and one point went", post.look(0, 6), 3);
        peer.askConfirming(2, 100, 1, 6, 0, 1, 0, 0, 0, 0, 23);
        peer.confirm(3);
        Check.same("its last point went", post.look(0, 6), 4);
        peer.askConfirming(3, 101, 1, 6, 0, 1, 0, 0, 0, 0, 1);
        peer.confirm(12);
        peer.nextToCome = 12;
        int came = peer.nextToSend;
        peer.expectConfirming("it comes back", came - 2, 100, 1, 7, 0, 1, 0, 0, 0, 0, 20);
        peer.expectConfirming("a point", came - 2, 1, 1, 20, 0, 1, 0, 10, 0, 0, 0);
        peer.expectConfirming("a point", came - 1, 3, 1, 20, 0, 1, 0, 11, 0, 0, 0);
        peer.expect("its end", 100, 1, 10, 0, 1, 0, 0, 0, 0, 20);
        peer.expect("counters while it went on", 101, 1, 71, 0, 1, 0, 0, 0, 0, 5);
        peer.expect("a group while it went on", 100, 1, 71, 0, 1, 0, 0, 0, 0, 22);
        peer.expect("while it had a point to tell", 100, 1, 71, 0, 1, 0, 0, 0, 0, 23);
        peer.expect("when only its end was left", 101, 1, 7, 0, 1, 0, 0, 0, 0, 1);
        peer.expect("the end of that", 101, 1, 10, 0, 1, 0, 0, 0, 0, 1);
        peer.expectNothing("no more");
        onAnotherLine();
    }

    /** One that has nothing to tell goes on as long as something is before it. */
    private static void nothingToTell() {
        TelecontrolPost post = new TelecontrolPost(1);
        Peer peer = Peer.started(post, 0);
        fillWindow(post, peer);
        peer.askConfirming(0, 104, 1, 6, 0, 1, 0, 0, 0, 0, 170, 85);
        peer.askConfirming(0, 100, 1, 6, 0, 1, 0, 0, 0, 0, 20);
        peer.askConfirming(0, 100, 1, 6, 0, 1, 0, 0, 0, 0, 21);
        peer.confirm(1);
        peer.askConfirming(1, 100, 1, 6, 0, 1, 0, 0, 0, 0, 22);
        peer.confirm(2);
        Check.same("its 7 went", post.look(0, 6), 3);
        peer.askConfirming(2, 100, 1, 6, 0, 1, 0, 0, 0, 0, 23);
        peer.confirm(12);
        while (post.look(0, 1) > 0) {
            int[] frame = peer.takeFrame();
            if (frame[2] % 2 == 0 && frame[6] == 100) {
                int want = frame[15] == 21 || frame[15] == 22 ? 71 : frame[8] == 10 ? 10 : 7;
                Check.same("interrogation " + frame[15], frame[8], want);
            }
        }
    }

    private static void onAnotherLine() {
        TelecontrolPost post = new TelecontrolPost(1);
        post.point(10, 0, 0, false);
        Peer peer = Peer.started(post, 0);
        fillWindow(post, peer);
        peer.askConfirming(0, 100, 1, 6, 0, 1, 0, 0, 0, 0, 20);
        Peer other = Peer.started(post, 1);
        other.ask(100, 1, 6, 0, 1, 0, 0, 0, 0, 20);
        other.expect("another line's does not matter", 100, 1, 7, 0, 1, 0, 0, 0, 0, 20);
        Check.same("the old line's is kept", post.look(0, 6), 1);
        peer.control(7);
        peer.confirm(12);
        peer.expectControl("started again", 11);
        peer.nextToCome = 12;
        peer.expect("it goes on", 100, 1, 7, 0, 1, 0, 0, 0, 0, 20);
    }

    private static void ofAClosedLine() {
        TelecontrolPost post = new TelecontrolPost(1);
        Peer peer = Peer.started(post, 0);
        fillWindow(post, peer);
        peer.askConfirming(0, 100, 1, 6, 0, 1, 0, 0, 0, 0, 20);
        post.close(0);
        Peer again = Peer.started(post, 0);
        again.ask(100, 1, 6, 0, 1, 0, 0, 0, 0, 21);
        again.expect("what a closed line had does not go on", 100, 1, 7, 0, 1, 0, 0, 0, 0, 21);
        again.expect("its end", 100, 1, 10, 0, 1, 0, 0, 0, 0, 21);
    }

    private static void pointsThatCome() {
        TelecontrolPost post = new TelecontrolPost(1);
        post.point(20, 0, 0, false);
        post.point(30, 1, 0, false);
        Peer peer = Peer.started(post, 0);
        fillWindow(post, peer);
        peer.askConfirming(0, 100, 1, 6, 0, 1, 0, 0, 0, 0, 20);
        peer.confirm(2);
        post.point(25, 0, 0, false);
        post.point(10, 0, 0, false);
        peer.confirm(12);
        peer.nextToCome = 12;
        peer.expect("it comes back", 100, 1, 7, 0, 1, 0, 0, 0, 0, 20);
        peer.expect("the first", 1, 1, 20, 0, 1, 0, 20, 0, 0, 0);
        peer.expect("one that came", 1, 1, 20, 0, 1, 0, 25, 0, 0, 0);
        peer.expect("the last", 3, 1, 20, 0, 1, 0, 30, 0, 0, 0);
        peer.expect("its end", 100, 1, 10, 0, 1, 0, 0, 0, 0, 20);
    }

    private static void testsOriginsAndEachStation() {
        TelecontrolPost post = new TelecontrolPost(513);
        post.point(10, 0, 0, false);
        post.point(11, 6, 0, false);
        Peer peer = Peer.started(post, 0);
        peer.ask(100, 1, 6 + 128, 255, 255, 255, 0, 0, 0, 20);
        peer.expect("as it came", 100, 1, 7 + 128, 255, 255, 255, 0, 0, 0, 20);
        peer.expect("with the station's own number", 1, 1, 20 + 128, 255, 1, 2, 10, 0, 0, 0);
        peer.expect("as it came", 100, 1, 10 + 128, 255, 255, 255, 0, 0, 0, 20);
        peer.ask(101, 1, 6 + 128 + 64, 1, 255, 255, 0, 0, 0, 5);
        peer.expect("as it came, but for the cause", 101, 1, 7 + 128, 1, 255, 255, 0, 0, 0, 5);
        peer.expect("with the station's own number", 15, 1, 37 + 128, 1, 1, 2, 11, 0, 0, 0, 0, 0, 0, 1);
        peer.expect("as it came, but for the cause", 101, 1, 10 + 128, 1, 255, 255, 0, 0, 0, 5);
    }

    /** Those of all lines count; of 33 the byte is 1 again. */
    private static void counterNumberGoesRound() {
        TelecontrolPost post = new TelecontrolPost(1);
        post.point(45, 6, 4, false);
        Master master = Master.reset(post, 1, 1, 1, 1);
        Peer peer = Peer.started(post, 0);
        for (int i = 1; i <= 33; i++) {
            if (i % 2 == 0) {
                master.ask(101, 1, 6, 1, 0, 1);
                master.askClass(1);
                master.expectLong("begun on line 3", 8 + 32, 101, 1, 7, 1, 0, 1);
                master.askClass(1);
                master.expectLong("its end", 8, 101, 1, 10, 1, 0, 1);
            } else {
                peer.ask(101, 1, 6, 0, 1, 0, 0, 0, 0, 1);
                peer.expect("begun", 101, 1, 7, 0, 1, 0, 0, 0, 0, 1);
                peer.expect("its end", 101, 1, 10, 0, 1, 0, 0, 0, 0, 1);
            }
            int number = i == 32 ? 0 : i == 33 ? 1 : i;
            peer.ask(102, 1, 5, 0, 1, 0, 45, 0, 0);
            peer.expect("begun so often: " + i, 15, 1, 5, 0, 1, 0, 45, 0, 0, 0, 0, 0, 0, number);
        }
        post.change(0, 0, 240, false);
        peer.ask(102, 1, 5, 0, 1, 0, 45, 0, 0);
        peer.expect("128 of the quality, and no other bit", 15, 1, 5, 0, 1, 0, 45, 0, 0, 0, 0, 0, 0, 129);
    }

    private static void fiveIsAllAndNoGroup() {
        TelecontrolPost post = new TelecontrolPost(1);
        post.point(10, 6, 0, false);
        post.point(11, 6, 1, false);
        post.point(12, 6, 5, false);
        post.point(13, 6, 16, false);
        Peer peer = Peer.started(post, 0);
        peer.ask(101, 1, 6, 0, 1, 0, 0, 0, 0, 5);
        peer.expect("it comes back", 101, 1, 7, 0, 1, 0, 0, 0, 0, 5);
        peer.expect("all", 15, 4, 37, 0, 1, 0, 10, 0, 0, 0, 0, 0, 0, 1, 11, 0, 0, 0, 0, 0, 0, 1,
                12, 0, 0, 0, 0, 0, 0, 1, 13, 0, 0, 0, 0, 0, 0, 1);
        peer.expect("its end", 101, 1, 10, 0, 1, 0, 0, 0, 0, 5);
        peer.ask(101, 1, 6, 0, 1, 0, 0, 0, 0, 1);
        peer.expect("it comes back", 101, 1, 7, 0, 1, 0, 0, 0, 0, 1);
        peer.expect("group 1", 15, 1, 38, 0, 1, 0, 11, 0, 0, 0, 0, 0, 0, 2);
        peer.expect("its end", 101, 1, 10, 0, 1, 0, 0, 0, 0, 1);
    }

    private static void countersGoOn() {
        TelecontrolPost post = new TelecontrolPost(1);
        post.point(10, 6, 0, false);
        Peer peer = Peer.started(post, 0);
        fillWindow(post, peer);
        peer.askConfirming(0, 101, 1, 6, 0, 1, 0, 0, 0, 0, 5);
        peer.askConfirming(0, 100, 1, 6, 0, 1, 0, 0, 0, 0, 20);
        peer.askConfirming(0, 101, 1, 6, 0, 1, 0, 0, 0, 0, 1);
        peer.confirm(12);
        peer.nextToCome = 12;
        peer.expect("it comes back", 101, 1, 7, 0, 1, 0, 0, 0, 0, 5);
        peer.expect("one was begun", 15, 1, 37, 0, 1, 0, 10, 0, 0, 0, 0, 0, 0, 1);
        peer.expect("its end", 101, 1, 10, 0, 1, 0, 0, 0, 0, 5);
        peer.expect("an interrogation while counters went on", 100, 1, 71, 0, 1, 0, 0, 0, 0, 20);
        peer.expect("counters while counters went on", 101, 1, 71, 0, 1, 0, 0, 0, 0, 1);
        peer.ask(100, 1, 6, 0, 1, 0, 0, 0, 0, 20);
        peer.expect("when they have ended", 100, 1, 7, 0, 1, 0, 0, 0, 0, 20);
    }
}
