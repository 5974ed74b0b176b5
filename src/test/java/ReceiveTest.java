/** Promise 9: receive, with the frames of connections. */
public final class ReceiveTest {
    private static final int[] ASK = {104, 1, 6, 0, 1, 0, 0, 0, 0, 170, 85};
    private static final int[] TOLD = {104, 1, 7, 0, 1, 0, 0, 0, 0, 170, 85};

    public static void main(String[] args) {
        wrongArguments();
        orderOfBytes();
        whereItWasClosed();
        firstBytesAndLengths();
        controls();
        lookedAtWhenWhole();
        startAndStop();
        stoppingWaits();
        onlyOneIsStarted();
        tests();
        supervisoryNumbers();
        informationNumbers();
        informationWhenNotStarted();
        numbersGoRound();
        eightAreConfirmed();
        windowOfTwelve();
        fewBytesWait();
        tooManyBytesWait();
        anyFrameMayBeTooMany();
        Check.end();
    }

    private static TelecontrolPost withPoint() {
        TelecontrolPost post = new TelecontrolPost(1);
        post.point(9, 0, 0, false);
        return post;
    }

    private static void wrongArguments() {
        TelecontrolPost post = new TelecontrolPost(1);
        int[] lines = {-1, 4, Integer.MAX_VALUE, Integer.MIN_VALUE};
        for (int line : lines) {
            Check.noArgument("line " + line, () -> post.receive(line, 0, 1));
        }
        int[] many = {0, -1, 9, Integer.MAX_VALUE, Integer.MIN_VALUE};
        for (int n : many) {
            Check.noArgument("n " + n + " of a closed line", () -> post.receive(0, 0, n));
        }
        for (int line = 0; line <= 3; line++) {
            int l = line;
            Check.noState("closed line " + line, () -> post.receive(l, 104, 1));
        }
        post.open(0);
        post.serial(1, 1, 1, 1);
        for (int n : many) {
            Check.noArgument("n " + n + " of an open line", () -> post.receive(0, 0, n));
            Check.noArgument("n " + n + " of line 3", () -> post.receive(3, 0, n));
        }
        Check.same("open still", post.look(0, 0), 1);
    }

    private static void orderOfBytes() {
        TelecontrolPost post = new TelecontrolPost(1);
        post.open(0);
        Check.same("six at once, with more above them", post.receive(0, 0x7fff680443000000L, 6), 6);
        Check.same("answered", post.take(0), 0x0668048300000000L);
        long[] bytes = {0x68, -0xFC, 0x43, -256, 0, Long.MIN_VALUE};
        for (long b : bytes) {
            Check.same("one alone", post.receive(0, b, 1), 1);
        }
        Check.same("answered, too", post.take(0), 0x0668048300000000L);
        Check.same("eight", post.receive(0, 0x6804430000006804L, 8), 8);
        Check.same("four", post.receive(0, 0x43000000L, 4), 4);
        Check.same("both are answered", post.look(0, 1), 12);
        Check.same("seven of eight with the highest bit", post.receive(0, 0x8068044300000068L, 7), 7);
        Check.same("three", post.look(0, 1), 18);
    }

    private static int closedAt(int... bytes) {
        TelecontrolPost post = withPoint();
        Peer peer = Peer.started(post, 0);
        int at = peer.give(bytes);
        Check.same("closed", post.look(0, 0), 0);
        return at;
    }

    private static void whereItWasClosed() {
        TelecontrolPost post = new TelecontrolPost(1);
        post.open(0);
        Check.same("the first byte is wrong", post.receive(0, 0x6968040000000000L, 8), 1);
        post.open(0);
        Check.same("the second byte is wrong", post.receive(0, 0x6803040000000000L, 8), 2);
        post.open(0);
        Check.same("behind a whole frame", post.receive(0, 0x6804430000006903L, 8), 7);
        post.open(0);
        Check.same("a whole frame is wrong", post.receive(0, 0x68040B0000006804L, 8), 6);
        Check.same("closed", post.look(0, 0), 0);
        Check.same("its last byte closes it", closedAt(104, 4, 11, 0, 0, 0), 6);
    }

    private static void firstBytesAndLengths() {
        for (int first = 0; first < 256; first++) {
            TelecontrolPost post = new TelecontrolPost(1);
            post.open(1);
            post.receive(1, first, 1);
            Check.same("first byte " + first, post.look(1, 0), first == 104 ? 1 : 0);
        }
        for (int length = 0; length < 256; length++) {
            TelecontrolPost post = new TelecontrolPost(1);
            post.open(1);
            post.receive(1, 104 << 8 | length, 2);
            Check.same("length " + length, post.look(1, 0), length >= 4 && length <= 253 ? 1 : 0);
        }
    }

    private static void controls() {
        for (int control = 1; control < 256; control += 2) {
            TelecontrolPost post = new TelecontrolPost(1);
            post.open(0);
            new Peer(post, 0).control(control);
            boolean good = control == 1 || control == 7 || control == 19 || control == 67 || control == 131;
            int state = control == 7 ? 2 : 1;
            Check.same("control " + control, post.look(0, 0), good ? state : 0);
        }
        int[] codes = {7, 19, 67, 131};
        for (int code : codes) {
            Check.same("a byte behind the code", closedAt(104, 4, code, 1, 0, 0), 6);
            Check.same("two bytes behind", closedAt(104, 4, code, 0, 1, 0), 6);
            Check.same("three bytes behind", closedAt(104, 4, code, 0, 0, 128), 6);
            Check.same("a length of 5", closedAt(104, 5, code, 0, 0, 0, 0), 7);
        }
        Check.same("an S frame with a second byte", closedAt(104, 4, 1, 1, 0, 0), 6);
        Check.same("an S frame of 5", closedAt(104, 5, 1, 0, 0, 0, 0), 7);
        Check.same("an S frame with an odd number", closedAt(104, 4, 1, 0, 1, 0), 6);
        Check.same("an I frame without an ASDU", closedAt(104, 4, 0, 0, 0, 0), 6);
        Check.same("an I frame with half a head", closedAt(104, 9, 0, 0, 0, 0, 104, 1, 6, 0, 1), 11);
    }

    private static void startAndStop() {
        TelecontrolPost post = withPoint();
        post.open(0);
        Peer peer = new Peer(post, 0);
        peer.control(19);
        peer.expectControl("a stopped one stops at once", 35);
        peer.expectState("stopped", 1);
        peer.control(7);
        peer.expectControl("start", 11);
        peer.expectState("started", 2);
        peer.control(7);
        peer.expectControl("start of a started one", 11);
        peer.expectState("started still", 2);
        peer.control(19);
        peer.expectControl("all is confirmed: at once", 35);
        peer.expectState("stopped", 1);
        post.change(0, 1, 0, true);
        peer.expectNothing("a stopped one sends no events");
        peer.control(7);
        peer.expectControl("start again", 11);
        peer.expect("what waited", 30, 1, 3, 0, 1, 0, 9, 0, 0, 1, 0, 0, 128, 0, 193, 1, 0);
        peer.control(11);
        peer.expectState("11 closes it", 0);
        post.open(0);
        peer.control(35);
        peer.expectState("35 closes it", 0);
    }

    private static void stoppingWaits() {
        TelecontrolPost post = withPoint();
        Peer peer = Peer.started(post, 0);
        post.change(0, 1, 0, true);
        post.change(0, 0, 0, true);
        peer.takeFrame();
        peer.takeFrame();
        peer.control(19);
        peer.expectState("stopping", 3);
        Check.same("not active any more", post.count(5), -1);
        peer.expectNothing("not answered yet");
        peer.control(19);
        peer.confirm(1);
        peer.expectNothing("one is unconfirmed still");
        post.change(0, 1, 0, true);
        peer.expectNothing("a stopping one sends nothing new");
        Check.same("confirmed though it is not active", post.count(0), 2);
        peer.confirm(2);
        peer.expectControl("answered once", 35);
        peer.expectNothing("only once");
        peer.expectState("stopped", 1);
        peer.nextToCome = 2;
        peer.start();
        peer.expect("numbers go on", 30, 1, 3, 0, 1, 0, 9, 0, 0, 1, 0, 0, 128, 0, 193, 1, 0);
        peer.control(19);
        peer.expectState("stopping again", 3);
        peer.start();
        peer.expectState("a stopping one is started", 2);
        peer.confirm();
        peer.expectNothing("its stop is not answered any more");
        peer.expectState("started", 2);
    }

    private static void onlyOneIsStarted() {
        TelecontrolPost post = withPoint();
        Peer first = Peer.started(post, 0);
        Check.same("the first is active", post.count(5), 0);
        Peer second = Peer.started(post, 2);
        Check.same("the second is active", post.count(5), 2);
        first.expectState("the first is stopped", 1);
        first.expectNothing("and is told nothing");
        first.ask(ASK);
        first.expectState("an I frame closes it then", 0);
        second.ask(ASK);
        second.expect("the second one answers", TOLD);
        Peer third = Peer.started(post, 1);
        post.change(0, 1, 0, true);
        third.control(19);
        third.expectState("stopping", 3);
        second.start();
        third.expectState("a stopping one is not stopped by another", 3);
        Check.same("the second is active again", post.count(5), 2);
        stoppedByAnother();
    }

    private static void stoppedByAnother() {
        TelecontrolPost post = withPoint();
        Peer first = Peer.started(post, 0);
        post.change(0, 1, 0, true);
        first.takeFrame();
        Peer.started(post, 1);
        Check.same("a frame is unconfirmed", post.look(0, 3), 1);
        first.control(19);
        first.expectControl("a stopped one is answered at once all the same", 35);
        first.expectState("stopped", 1);
        first.confirm(1);
        first.expectNothing("and once");
        first.expectState("its frame may be confirmed", 1);
    }

    private static void tests() {
        TelecontrolPost post = withPoint();
        post.open(0);
        Peer peer = new Peer(post, 0);
        peer.control(67);
        peer.expectControl("of a stopped one", 131);
        peer.start();
        peer.control(67);
        peer.expectControl("of a started one", 131);
        peer.control(131);
        peer.expectNothing("ignored");
        peer.expectState("open", 2);
        post.change(0, 1, 0, true);
        peer.takeFrame();
        peer.control(19);
        peer.control(67);
        peer.expectControl("of a stopping one", 131);
    }

    private static void supervisoryNumbers() {
        for (int number = 0; number < 6; number++) {
            TelecontrolPost post = withPoint();
            Peer peer = Peer.started(post, 0);
            for (int i = 0; i < 3; i++) {
                post.change(0, 1, 0, true);
            }
            peer.confirm(number);
            Check.same("confirming " + number, post.look(0, 0), number <= 3 ? 2 : 0);
            if (number <= 3) {
                Check.same("unconfirmed", post.look(0, 3), 3 - number);
                Check.same("events left", post.count(0), 3 - number);
                Check.same("events sent", post.count(1), 3 - number);
                int low = number;
                peer.confirm(low);
                Check.same("the same again", post.look(0, 0), 2);
                peer.confirm(number - 1 & 32767);
                Check.same("an older one closes it", post.look(0, 0), 0);
            }
        }
        TelecontrolPost post = withPoint();
        post.open(0);
        Peer peer = new Peer(post, 0);
        peer.confirm(0);
        peer.expectState("an S frame on a stopped line", 1);
        peer.confirm(1);
        peer.expectState("a wrong one", 0);
    }

    private static void informationNumbers() {
        TelecontrolPost post = withPoint();
        Peer peer = Peer.started(post, 0);
        peer.ask(ASK);
        peer.expectConfirming("the first", 1, TOLD);
        peer.ask(ASK);
        peer.expectConfirming("the second", 2, TOLD);
        Check.same("it confirmed the first", post.look(0, 3), 1);
        Check.same("a number again", peer.give(Peer.frame(1, 2, ASK)), 17);
        peer.expectState("closes it", 0);
        Check.same("a number too far", closedAt(Peer.frame(1, 0, ASK)), 17);
        Check.same("a number below", closedAt(Peer.frame(32767, 0, ASK)), 17);
        Check.same("confirming what was not sent", closedAt(Peer.frame(0, 1, ASK)), 17);
        int[] odd = Peer.frame(0, 0, ASK);
        odd[4] = 1;
        Check.same("an odd number", closedAt(odd), 17);
        TelecontrolPost other = withPoint();
        Peer wrong = Peer.started(other, 0);
        other.change(0, 1, 0, true);
        wrong.give(Peer.frame(1, 1, ASK));
        Check.same("a frame that closes confirms nothing", other.count(0), 1);
    }

    private static void informationWhenNotStarted() {
        TelecontrolPost post = withPoint();
        post.open(0);
        Peer peer = new Peer(post, 0);
        peer.ask(ASK);
        peer.expectState("closes a stopped one", 0);
        Peer stopping = Peer.started(post, 1);
        post.change(0, 1, 0, true);
        stopping.control(19);
        stopping.expectState("stopping", 3);
        stopping.ask(ASK);
        stopping.expectState("closes a stopping one", 0);
        Check.same("its confirming does nothing", post.count(0), 1);
    }

    /** 512 calls are too few for 32768 frames on one object, but nothing else is. */
    private static void numbersGoRound() {
        TelecontrolPost post = withPoint();
        Peer peer = Peer.started(post, 0);
        for (int i = 0; i < 32767; i++) {
            peer.ask(ASK);
            post.take(0);
            post.take(0);
            post.take(0);
            peer.nextToCome = peer.nextToCome + 1 & 32767;
        }
        Check.same("the last number to send", post.look(0, 2), 32767);
        Check.same("the last number to come", post.look(0, 4), 32767);
        peer.ask(ASK);
        peer.expectConfirming("the last one", 0, TOLD);
        Check.same("round to send", post.look(0, 2), 0);
        Check.same("round to come", post.look(0, 4), 0);
        post.change(0, 1, 0, true);
        peer.nextToCome = 1;
        peer.confirm(1);
        Check.same("confirmed over the end", post.look(0, 3), 0);
        Check.same("its event, too", post.count(0), 0);
    }

    private static void eightAreConfirmed() {
        TelecontrolPost post = withPoint();
        Peer peer = Peer.started(post, 0);
        for (int i = 0; i < 12; i++) {
            post.change(0, 1, 0, true);
            peer.takeFrame();
        }
        for (int i = 1; i <= 7; i++) {
            peer.askConfirming(0, ASK);
            Check.same("so many came", post.look(0, 5), i);
        }
        peer.expectNothing("seven are not confirmed");
        peer.askConfirming(0, ASK);
        peer.expectSupervisory("eight are");
        Check.same("none is left", post.look(0, 5), 0);
        for (int i = 0; i < 7; i++) {
            peer.askConfirming(0, ASK);
        }
        peer.confirm(1);
        peer.nextToCome = 12;
        peer.expect("an I frame confirms them", TOLD);
        Check.same("none is left", post.look(0, 5), 0);
        behindWhatTheirBytesMade();
    }

    /** The eighth frame's own answer goes first, and confirms it. */
    private static void behindWhatTheirBytesMade() {
        TelecontrolPost post = withPoint();
        Peer peer = Peer.started(post, 0);
        for (int i = 0; i < 11; i++) {
            peer.askConfirming(0, ASK);
        }
        while (post.look(0, 1) > 0) {
            peer.takeFrame();
        }
        post.change(0, 1, 0, true);
        peer.takeFrame();
        for (int i = 0; i < 7; i++) {
            peer.askConfirming(0, ASK);
        }
        Check.same("seven came", post.look(0, 5), 7);
        peer.askConfirming(1, ASK);
        peer.nextToCome = 12;
        peer.expect("an answer goes, and confirms all eight", TOLD);
        peer.expectNothing("no S frame");
    }

    private static void windowOfTwelve() {
        TelecontrolPost post = withPoint();
        Peer peer = Peer.started(post, 0);
        for (int i = 0; i < 20; i++) {
            post.change(0, 1, 0, true);
            while (post.look(0, 1) > 0) {
                peer.takeFrame();
            }
            Check.same("unconfirmed", post.look(0, 3), Math.min(12, i + 1));
            Check.same("sent", post.count(1), Math.min(12, i + 1));
        }
        peer.confirm(5);
        Check.same("five more go", post.look(0, 2), 17);
        Check.same("twelve are unconfirmed", post.look(0, 3), 12);
        Check.same("five events are gone", post.count(0), 15);
    }

    private static void fewBytesWait() {
        TelecontrolPost post = withPoint();
        Peer peer = new Peer(post, 0);
        post.open(0);
        for (int i = 0; i < 42; i++) {
            peer.control(67);
        }
        Check.same("252 bytes wait", post.look(0, 1), 252);
        post.change(0, 1, 0, true);
        post.change(0, 0, 0, true);
        peer.control(7);
        Check.same("258 bytes wait: none goes", post.look(0, 2), 0);
        post.take(0);
        Check.same("251 waited: one goes, and no more", post.look(0, 2), 1);
        Check.same("274 bytes wait", post.look(0, 1), 274);
        post.take(0);
        post.take(0);
        Check.same("260 bytes wait", post.look(0, 1), 260);
        Check.same("none goes", post.look(0, 2), 1);
        post.take(0);
        Check.same("253 waited: the next one goes", post.look(0, 2), 2);
        exactlyThatFew();
    }

    private static void exactlyThatFew() {
        TelecontrolPost post = startedBehind(43, 1);
        Check.same("257 bytes wait, none goes", post.look(0, 2), 0);
        post.take(0);
        Check.same("250 waited, one goes", post.look(0, 2), 1);
        TelecontrolPost exact = startedBehind(44, 2);
        Check.same("256 bytes wait, none goes", exact.look(0, 2), 0);
        Check.same("256 bytes wait", exact.look(0, 1), 256);
        TelecontrolPost fewer = startedBehind(45, 3);
        Check.same("255 bytes waited, one goes", fewer.look(0, 2), 1);
        Check.same("that, and its 23 bytes", fewer.look(0, 1), 255 + 23);
    }

    /** A line with an event to send, that was started behind so many tests of 6 bytes; then so many times 7 were taken. */
    private static TelecontrolPost startedBehind(int tests, int takes) {
        TelecontrolPost post = withPoint();
        post.open(0);
        post.change(0, 1, 0, true);
        Peer peer = new Peer(post, 0);
        for (int i = 0; i < tests; i++) {
            peer.control(67);
        }
        peer.control(7);
        for (int i = 0; i < takes; i++) {
            post.take(0);
        }
        return post;
    }

    private static void tooManyBytesWait() {
        TelecontrolPost post = withPoint();
        post.open(0);
        Peer peer = new Peer(post, 0);
        for (int i = 0; i < 166; i++) {
            Check.same("taken", peer.control(67), 6);
        }
        Check.same("996 bytes", post.look(0, 1), 996);
        peer.expectState("open", 1);
        Check.same("1,002 would wait", peer.control(67), 6);
        peer.expectState("closed", 0);
        Check.same("gone", post.look(0, 1), 0);
        post.open(0);
        for (int i = 0; i < 167; i++) {
            peer.control(67);
            if (i == 0) {
                post.take(0);
            }
        }
        Check.same("996 again", post.look(0, 1), 996);
        exactlyOneThousand();
        oneMoreThanThousand();
    }

    private static void oneMoreThanThousand() {
        TelecontrolPost post = withPoint();
        post.open(0);
        Peer peer = new Peer(post, 0);
        peer.control(67);
        peer.control(67);
        post.take(0);
        for (int i = 0; i < 165; i++) {
            peer.control(67);
        }
        Check.same("995 bytes", post.look(0, 1), 995);
        peer.control(67);
        peer.expectState("1,001 bytes may not wait", 0);
    }

    private static void exactlyOneThousand() {
        TelecontrolPost post = withPoint();
        post.open(0);
        Peer peer = new Peer(post, 0);
        for (int i = 0; i < 2; i++) {
            peer.control(67);
        }
        post.take(0);
        Check.same("5 bytes", post.look(0, 1), 5);
        for (int i = 0; i < 165; i++) {
            peer.control(67);
        }
        post.take(0);
        peer.control(67);
        peer.control(67);
        Check.same("1,000 bytes may wait", post.look(0, 1), 1000);
        peer.expectState("open", 1);
        peer.control(19);
        peer.expectState("one more frame may not", 0);
    }

    private static int[] longFrame(int control) {
        int[] frame = new int[255];
        frame[0] = 104;
        frame[1] = 253;
        frame[2] = control;
        return frame;
    }

    private static void lookedAtWhenWhole() {
        int[][] wrong = {{104, 4, 11, 0, 0, 0}, {104, 4, 255, 255, 255, 255}, longFrame(7), longFrame(1), longFrame(35),
            Peer.frame(1, 0, ASK), Peer.frame(0, 1, ASK), Peer.frame(0, 0, 255), Peer.frame(0, 0, 104, 2, 6, 0, 1, 0)};
        for (int[] frame : wrong) {
            TelecontrolPost post = withPoint();
            Peer peer = Peer.started(post, 0);
            int[] before = java.util.Arrays.copyOf(frame, frame.length - 1);
            Check.same("all bytes but the last one", peer.give(before), before.length);
            peer.expectState("open as long as the frame is not whole", 2);
            Check.same("the last one", peer.give(frame[frame.length - 1]), 1);
            peer.expectState("closed", 0);
        }
        TelecontrolPost post = withPoint();
        post.open(0);
        Peer stopped = new Peer(post, 0);
        Check.same("an I frame on a stopped line", stopped.give(java.util.Arrays.copyOf(Peer.frame(0, 0, ASK), 16)), 16);
        stopped.expectState("not closed yet", 1);
        stopped.give(85);
        stopped.expectState("closed by its last byte", 0);
    }

    private static void testsFor(Peer peer, int many) {
        for (int i = 0; i < many; i++) {
            peer.control(67);
        }
        Check.same("996 bytes wait", peer.post.look(peer.line, 1), 996);
    }

    private static void anyFrameMayBeTooMany() {
        TelecontrolPost starting = withPoint();
        starting.open(0);
        Peer first = new Peer(starting, 0);
        testsFor(first, 166);
        first.control(7);
        first.expectState("11 is one too many", 0);
        Check.same("no line is active", starting.count(5), -1);
        TelecontrolPost stopping = withPoint();
        Peer second = Peer.started(stopping, 1);
        testsFor(second, 166);
        second.control(19);
        second.expectState("35 is one too many", 0);
        TelecontrolPost confirming = withPoint();
        Peer third = Peer.started(confirming, 2);
        for (int i = 0; i < 43; i++) {
            third.control(67);
        }
        for (int i = 0; i < 7; i++) {
            third.askConfirming(0, ASK);
        }
        testsFor(third, 123);
        Check.same("seven came", confirming.look(2, 5), 7);
        Check.same("the eighth is taken", third.askConfirming(0, ASK), 17);
        third.expectState("the S frame is one too many", 0);
    }
}
