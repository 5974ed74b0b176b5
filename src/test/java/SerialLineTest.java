/** The serial line: its frames, its FCB, and its two classes. */
public final class SerialLineTest {
    private static final int[] TEST = {104, 1, 6, 1, 0, 170, 85};
    private static final int[] TESTED = {104, 1, 7, 1, 0, 170, 85};

    public static void main(String[] args) {
        functions();
        beforeReset();
        brokenFrames();
        brokenLongFrames();
        foreignFrames();
        longWhereShortIsDue();
        withoutCount();
        repeated();
        firstBitAfterReset();
        waitingBytesAreGivenUp();
        dataWithout();
        classOneAndTwo();
        interrogationAndEvents();
        interrogationSizes();
        nothingIsConfirmed();
        asdusThatAreIgnored();
        shortHeads();
        orderOfLooking();
        comesBack();
        commands();
        wideAddresses();
        longestAnswer();
        Check.end();
    }

    private static TelecontrolPost station() {
        TelecontrolPost post = new TelecontrolPost(1);
        post.point(10, 0, 1, false);
        post.point(11, 4, 1, false);
        post.point(20, 6, 1, false);
        post.point(30, 7, 0, false);
        post.point(40, 7, 0, true);
        return post;
    }

    private static Master reset(TelecontrolPost post) {
        return Master.reset(post, 5, 1, 1, 1);
    }

    private static void functions() {
        for (int control = 0; control < 256; control++) {
            TelecontrolPost post = station();
            Master master = reset(post);
            master.shortFrame(control);
            int function = control & 15;
            boolean heard = (control & 64) != 0;
            boolean counted = (control & 16) != 0 && (control & 32) != 0;
            if (heard && function == 0) {
                master.expectShort("reset " + control, 0);
            } else if (heard && function == 9) {
                master.expectShort("state " + control, 11);
            } else if (heard && counted && (function == 10 || function == 11)) {
                master.expectShort("nothing of a class " + control, 9);
            } else {
                master.expectNothing("ignored " + control);
            }
            TelecontrolPost other = station();
            Master data = reset(other);
            data.longFrame(control, TEST);
            boolean done = heard && (function == 4 || function == 3 && counted);
            Check.same("done " + control, other.look(3, 6), done ? 1 : 0);
            if (done && function == 3) {
                data.expectShort("confirmed " + control, 32);
            } else {
                data.expectNothing("not confirmed " + control);
            }
        }
    }

    private static void beforeReset() {
        TelecontrolPost post = station();
        post.serial(5, 1, 1, 1);
        Master master = new Master(post, 5);
        master.askClass(1);
        master.askClass(2);
        master.ask(TEST);
        master.longFrame(64 + 4, TEST);
        master.expectNothing("ignored");
        Check.same("no answers", post.look(3, 6), 0);
        master.shortFrame(64 + 9);
        master.expectShort("state", 11);
        Check.same("not reset", post.look(3, 0), 1);
        post.change(0, 1, 0, true);
        master.shortFrame(64 + 9);
        master.expectShort("nothing of class 1 as long as it is not active", 11);
        master.shortFrame(64);
        master.expectShort("the event is of class 1 then", 32);
    }

    private static void brokenFrames() {
        for (int at = 0; at < 5; at++) {
            for (int b = 0; b < 256; b++) {
                TelecontrolPost post = station();
                post.serial(5, 1, 1, 1);
                int[] frame = Master.shortBytes(64 + 9, 5);
                int right = frame[at];
                frame[at] = b;
                Peer.give(post, 3, frame);
                if (b == right) {
                    Check.same("right", post.look(3, 1), 5);
                } else {
                    Check.same("byte " + at + " is " + b, post.look(3, 1), 0);
                    if (at > 1 || at == 0 && b != 104) {
                        new Master(post, 5).shortFrame(64 + 9);
                        Check.same("the next frame after byte " + at + " is " + b, post.look(3, 1), 5);
                    }
                }
            }
        }
        TelecontrolPost post = station();
        post.serial(16, 1, 1, 1);
        Check.same("a wrong byte is given up itself", Peer.give(post, 3, 16, 73, 16, 16, 16, 73, 16, 89, 22), 9);
        Check.same("so the second begins a frame that is right", post.look(3, 1), 5);
    }

    private static void brokenLongFrames() {
        int[] whole = Master.longBytes(64 + 4, 5, TEST);
        for (int at = 0; at < whole.length; at++) {
            TelecontrolPost post = station();
            reset(post);
            int[] frame = whole.clone();
            frame[at] = frame[at] ^ 128;
            Peer.give(post, 3, frame);
            Check.same("byte " + at + " is wrong", post.look(3, 6), 0);
            if (at > 2) {
                Peer.give(post, 3, whole);
                Check.same("the next one is right", post.look(3, 6), 1);
            }
        }
        lengths();
    }

    /** A length that can't be is given up at once: then 16 begins a frame, or else it is a wrong length. */
    private static void lengths() {
        for (int length = 0; length < 256; length++) {
            TelecontrolPost post = station();
            reset(post);
            Peer.give(post, 3, 104, length);
            Peer.give(post, 3, 16, 73, 5, 78, 22);
            boolean isLength = length >= 3 && length <= 253;
            Check.same("length " + length, post.look(3, 1), isLength ? 0 : 5);
        }
        TelecontrolPost post = station();
        reset(post);
        Peer.give(post, 3, 104, 104, 104, 104);
        Peer.give(post, 3, 68, 5);
        int[] rest = new int[102];
        Peer.give(post, 3, rest);
        Peer.give(post, 3, 73, 22);
        Check.same("a frame of 104 bytes of a type 0", post.look(3, 6), 1);
    }

    private static void foreignFrames() {
        for (int address = 0; address < 256; address++) {
            TelecontrolPost post = station();
            Master master = reset(post);
            Peer.give(post, 3, Master.shortBytes(64 + 9, address));
            Check.same("short to " + address, post.look(3, 1), address == 5 ? 5 : 0);
            Peer.give(post, 3, Master.longBytes(64 + 4, address, TEST));
            Check.same("long to " + address, post.look(3, 6), address == 5 ? 1 : 0);
            master.takeAnswer();
        }
    }

    private static void longWhereShortIsDue() {
        int[] functions = {64, 64 + 9, 64 + 32 + 16 + 10, 64 + 32 + 16 + 11, 64 + 1, 64 + 15};
        for (int control : functions) {
            TelecontrolPost post = station();
            Master master = reset(post);
            master.longFrame(control, TEST);
            master.expectNothing("a long frame with " + control);
            Check.same("nothing is done", post.look(3, 6), 0);
        }
        TelecontrolPost post = station();
        Master master = reset(post);
        master.shortFrame(64 + 32 + 16 + 3);
        master.expectNothing("a short frame with 3");
        master.askClass(1);
        master.expectShort("its FCB was not counted", 9);
    }

    private static void withoutCount() {
        TelecontrolPost post = station();
        Master master = reset(post);
        master.shortFrame(64 + 32 + 10);
        master.shortFrame(64 + 32 + 11);
        master.longFrame(64 + 32 + 3, TEST);
        master.expectNothing("without FCV they are ignored");
        Check.same("nothing is done", post.look(3, 6), 0);
        master.askClass(1);
        master.expectShort("the FCB is new still", 9);
    }

    private static void repeated() {
        TelecontrolPost post = station();
        Master master = reset(post);
        master.ask(TEST);
        master.expectShort("taken", 32);
        master.askAgain(TEST);
        master.expectShort("taken once", 32);
        Check.same("one answer", post.look(3, 6), 1);
        master.askClassAgain(1);
        master.expectShort("the same FCB with another function: the answer again", 32);
        master.askClass(1);
        master.expectLong("the answer", 8, TESTED);
        Check.same("no answers", post.look(3, 6), 0);
        master.askClassAgain(1);
        master.expectLong("again", 8, TESTED);
        master.shortFrame(64 + 9);
        master.expectShort("the state between", 11);
        master.longFrame(64 + 4, TEST);
        master.askClassAgain(2);
        master.expectLong("again, as it was, though there is more now", 8, TESTED);
        master.askClass(1);
        master.expectLong("the next", 8, TESTED);
    }

    private static void firstBitAfterReset() {
        TelecontrolPost post = station();
        Master master = reset(post);
        master.shortFrame(64 + 16 + 10);
        master.expectNothing("FCB 0 after a reset: there was no answer yet");
        master.longFrame(64 + 16 + 3, TEST);
        master.expectNothing("nor is it done");
        Check.same("nothing is done", post.look(3, 6), 0);
        master.shortFrame(64 + 32 + 16 + 10);
        master.expectShort("FCB 32", 9);
        master.shortFrame(64 + 16 + 10);
        master.expectShort("FCB 0 then", 9);
        master.shortFrame(64 + 32 + 16 + 11);
        master.expectShort("FCB 32 then", 9);
        master.shortFrame(64);
        master.expectShort("reset", 0);
        master.shortFrame(64 + 16 + 10);
        master.expectNothing("what was kept before the reset is gone");
        master.shortFrame(64 + 32 + 16 + 10);
        master.expectShort("FCB 32 is new again", 9);
    }

    private static void waitingBytesAreGivenUp() {
        TelecontrolPost fresh = station();
        fresh.serial(5, 1, 1, 1);
        Master first = new Master(fresh, 5);
        first.shortFrame(64);
        first.shortFrame(64 + 16 + 10);
        first.expectShort("a repeated frame without an answer to repeat leaves what waits", 0);
        TelecontrolPost post = station();
        Master master = reset(post);
        master.shortFrame(64 + 9);
        master.askClass(1);
        Check.same("only the latest answer waits", post.look(3, 1), 5);
        master.expectShort("the latest", 9);
        master.shortFrame(64 + 9);
        Peer.takeBytes(post, 3, 3);
        master.shortFrame(64 + 9);
        master.longFrame(64 + 4, TEST);
        master.shortFrame(64 + 1);
        Peer.give(post, 3, Master.shortBytes(64 + 9, 6));
        Peer.give(post, 3, 1, 2, 3);
        master.expectShort("frames that are not answered leave it", 11);
    }

    private static void dataWithout() {
        TelecontrolPost post = station();
        Master master = reset(post);
        master.longFrame(64 + 4, TEST);
        master.longFrame(64 + 4, TEST);
        master.expectNothing("no answer");
        Check.same("it is done each time", post.look(3, 6), 2);
        master.askClass(1);
        master.expectLong("the first", 8 + 32, TESTED);
        master.askClass(1);
        master.expectLong("the second", 8, TESTED);
        master.askClass(1);
        master.expectShort("no more", 9);
    }

    private static void classOneAndTwo() {
        TelecontrolPost post = station();
        Master master = reset(post);
        master.ask(100, 1, 6, 1, 0, 20);
        master.expectShort("taken", 32);
        master.ask(TEST);
        master.expectShort("taken", 32);
        master.askClass(2);
        master.expectShort("its 7 is of class 1", 9 + 32);
        Check.same("two answers", post.look(3, 6), 2);
        master.askClass(1);
        master.expectLong("its 7", 8, 100, 1, 7, 1, 0, 20);
        master.askClass(1);
        master.expectShort("it is telling: what is behind waits", 9);
        master.askClass(2);
        master.expectLong("the first kind", 8, 1, 1, 20, 1, 10, 0);
        Check.same("two answers", post.look(3, 6), 2);
        post.change(1, 300, 1, false);
        master.askClass(2);
        master.expectLong("the second kind, as it is now", 8 + 32, 11, 1, 20, 1, 11, 44, 1, 1);
        master.askClass(2);
        master.expectShort("its end is of class 1", 9 + 32);
        master.askClass(1);
        master.expectLong("its end", 8 + 32, 100, 1, 10, 1, 0, 20);
        Check.same("one answer", post.look(3, 6), 1);
        master.askClass(1);
        master.expectLong("what was behind", 8, TESTED);
        master.ask(101, 1, 6, 1, 0, 1);
        master.expectShort("counters", 32);
        master.askClass(1);
        master.expectLong("their 7", 8, 101, 1, 7, 1, 0, 1);
        master.askClass(2);
        master.expectLong("a counter", 8 + 32, 15, 1, 38, 1, 20, 0, 0, 0, 0, 1);
        master.askClass(1);
        master.expectLong("their end", 8, 101, 1, 10, 1, 0, 1);
    }

    private static void interrogationAndEvents() {
        TelecontrolPost post = station();
        Master master = reset(post);
        master.ask(100, 1, 6, 255, 0, 20);
        master.askClass(1);
        post.change(0, 1, 0, true);
        master.askClass(2);
        master.expectLong("a point, and the event is of class 1", 8 + 32, 1, 1, 20, 1, 10, 1);
        master.askClass(1);
        master.expectLong("the event goes while it is telling", 8, 30, 1, 3, 1, 10, 1, 0, 0, 128, 0, 193, 1, 0);
        master.ask(100, 1, 6, 1, 0, 20);
        master.expectShort("while one goes on", 0);
        master.askClass(2);
        master.expectLong("the last point", 8 + 32, 11, 1, 20, 1, 11, 0, 0, 0);
        post.change(0, 0, 0, true);
        master.askClass(1);
        master.expectLong("its end before the event", 8 + 32, 100, 1, 10, 255, 0, 20);
        master.askClass(1);
        master.expectLong("the refused one", 8 + 32, 100, 1, 71, 1, 0, 20);
        master.askClass(1);
        master.expectLong("the event", 8, 30, 1, 3, 1, 10, 0, 0, 0, 128, 0, 193, 1, 0);
    }

    private static void interrogationSizes() {
        TelecontrolPost post = new TelecontrolPost(258);
        for (int i = 0; i < 32; i++) {
            post.point(100 + i, 5, 0, false);
        }
        Master master = Master.reset(post, 5, 2, 2, 3);
        master.ask(100, 1, 6, 9, 2, 1, 0, 0, 0, 20);
        master.askClass(1);
        master.expectLong("its 7", 8, 100, 1, 7, 9, 2, 1, 0, 0, 0, 20);
        master.askClass(2);
        int[] answer = master.takeAnswer();
        Check.same("thirty", answer[7], 30);
        Check.same("of 248 bytes with C and the address", answer[1], 248);
        master.askClass(2);
        answer = master.takeAnswer();
        Check.same("two", answer[7], 2);
        post.serial(5, 1, 2, 2);
        master.reset();
        master.ask(100, 1, 6, 2, 1, 0, 0, 20);
        master.askClass(1);
        master.askClass(2);
        answer = master.takeAnswer();
        Check.same("all with shorter addresses", answer[7], 32);
        Check.same("of 231 bytes", answer[1], 5 + 32 * 7 + 2);
    }

    private static void nothingIsConfirmed() {
        TelecontrolPost post = station();
        Master master = reset(post);
        master.ask(TEST);
        master.askClass(1);
        Check.same("an answer is gone when it was told", post.look(3, 6), 0);
        master.reset();
        master.askClass(1);
        master.expectShort("a reset does not bring it back", 9);
        master.ask(TEST);
        master.longFrame(64 + 4, 45, 1, 6, 1, 40, 129);
        Check.same("selected", post.count(4), 4);
        master.reset();
        Check.same("what waits outlives a reset", post.look(3, 6), 2);
        Check.same("what is selected, too", post.count(4), 4);
        master.askClass(1);
        master.expectLong("and is told", 8 + 32, TESTED);
    }

    private static void asdusThatAreIgnored() {
        int[][] wrong = {{104}, {104, 1}, {104, 1, 6}, {104, 1, 6, 1}, {104, 1, 6, 1, 0, 170}, {104, 2, 6, 1, 0, 170, 85},
            {104, 129, 6, 1, 0, 170, 85}, {104, 1, 6, 1, 0, 170, 85, 0}, {45, 1, 6, 1, 30}};
        for (int[] asdu : wrong) {
            TelecontrolPost post = station();
            Master master = reset(post);
            master.ask(asdu);
            master.expectShort("ignored, but the frame is confirmed", 0);
            Check.same("no answer", post.look(3, 6), 0);
            Check.same("reset still", post.look(3, 0), 2);
        }
    }

    private static void comesBack(int cause, int... asdu) {
        TelecontrolPost post = station();
        Master master = reset(post);
        master.ask(asdu);
        master.askClass(1);
        int[] told = asdu.clone();
        told[2] = cause;
        master.expectLong("type " + asdu[0] + " comes back with " + cause, 8, told);
    }

    private static void comesBack() {
        comesBack(44 + 64, 70, 1, 6, 1);
        comesBack(44 + 64, 1, 0, 6, 9);
        comesBack(45 + 64, 104, 1, 5, 1, 0, 170, 85);
        comesBack(46 + 64, 104, 1, 6, 2, 0, 170, 85);
        comesBack(46 + 64, 104, 1, 6, 255, 0, 170, 85);
        comesBack(46 + 64, 45, 1, 6, 255, 30, 1);
        comesBack(46 + 64, 102, 1, 5, 255, 10);
        comesBack(47 + 64, 104, 1, 6, 1, 1, 170, 85);
        comesBack(47 + 64, 45, 1, 6, 1, 31, 1);
        comesBack(7, 103, 1, 6, 255, 0, 0, 0, 0, 0, 1, 1, 0);
        comesBack(7 + 128 + 64, 105, 1, 6 + 128, 255, 0, 9);
        TelecontrolPost post = station();
        Master master = reset(post);
        master.ask(105, 1, 6, 255, 0, 1);
        master.askClass(1);
        master.expectLong("reset", 8 + 32, 105, 1, 7, 255, 0, 1);
        master.askClass(1);
        master.expectLong("its end", 8, 70, 1, 4, 1, 0, 2);
        TelecontrolPost wide = station();
        Master other = Master.reset(wide, 0, 2, 2, 2);
        other.ask(105, 1, 6, 99, 255, 255, 0, 0, 1);
        other.askClass(1);
        other.expectLong("reset", 8 + 32, 105, 1, 7, 99, 255, 255, 0, 0, 1);
        other.askClass(1);
        other.expectLong("its end", 8, 70, 1, 4, 99, 1, 0, 0, 0, 2);
        other.ask(100, 1, 6, 99, 255, 0, 0, 0, 20);
        other.askClass(1);
        other.expectLong("255 of two bytes is another station", 8, 100, 1, 46 + 64, 99, 255, 0, 0, 0, 20);
    }

    private static void commands() {
        TelecontrolPost post = station();
        Master master = reset(post);
        master.ask(45, 1, 6, 1, 40, 129);
        Check.same("selected", post.count(4), 4);
        master.ask(45, 1, 6, 1, 40, 1);
        Check.same("begun", post.count(3), 1);
        Check.same("by line 3", post.operation(0, 3), 3);
        master.askClass(1);
        master.expectLong("selected", 8 + 32, 45, 1, 7, 1, 40, 129);
        master.askClass(1);
        master.expectLong("begun", 8, 45, 1, 7, 1, 40, 1);
        Check.same("done", post.done(0, true), 4);
        master.askClass(1);
        master.expectLong("done", 8, 45, 1, 10, 1, 40, 1);
        master.ask(45, 1, 6, 1, 30, 1);
        master.ask(45, 1, 8, 1, 30, 1);
        master.askClass(1);
        master.askClass(1);
        master.expectLong("nothing to leave", 8, 45, 1, 73, 1, 30, 1);
        Check.same("done", post.done(1, false), 3);
        master.askClass(2);
        master.expectShort("it is of class 1", 9 + 32);
        master.askClass(1);
        master.expectLong("went wrong", 8, 45, 1, 74, 1, 30, 1);
    }

    private static void wideAddresses() {
        TelecontrolPost post = new TelecontrolPost(1);
        post.point(0x0102, 0, 0, false);
        post.point(0xFFFF, 7, 0, false);
        Master two = Master.reset(post, 0, 1, 1, 2);
        two.ask(102, 1, 5, 1, 2, 1);
        two.askClass(1);
        two.expectLong("two bytes", 8, 1, 1, 5, 1, 2, 1, 0);
        two.ask(45, 1, 6, 1, 255, 255, 1);
        two.askClass(1);
        two.expectLong("the greatest address", 8, 45, 1, 7, 1, 255, 255, 1);
        Master three = Master.reset(post, 0, 1, 1, 3);
        three.ask(102, 1, 5, 1, 2, 1, 0);
        three.askClass(1);
        three.expectLong("three bytes", 8, 1, 1, 5, 1, 2, 1, 0, 0);
        three.ask(102, 1, 5, 1, 2, 1, 1);
        three.askClass(1);
        three.expectLong("no such point", 8, 102, 1, 47 + 64, 1, 2, 1, 1);
    }

    private static void longestAnswer() {
        TelecontrolPost post = station();
        Master master = reset(post);
        int[] asdu = new int[251];
        java.util.Arrays.fill(asdu, 99);
        master.ask(asdu);
        master.askClass(1);
        asdu[2] = 44 + 64;
        Check.same("259 bytes wait", post.look(3, 1), 259);
        master.expectLong("the longest one", 8, asdu);
    }

    private static void shortHeads() {
        for (int cause = 1; cause <= 2; cause++) {
            for (int size = 1; size <= 2; size++) {
                int head = 2 + cause + size;
                for (int length = 1; length <= head; length++) {
                    TelecontrolPost post = station();
                    Master master = Master.reset(post, 5, cause, size, 1);
                    int[] asdu = new int[length];
                    asdu[0] = 99;
                    master.ask(asdu);
                    Check.same(length + " of " + head + " bytes", post.look(3, 6), length == head ? 1 : 0);
                    master.expectShort("the frame is confirmed", length == head ? 32 : 0);
                }
            }
        }
    }

    private static void orderOfLooking() {
        comesBack(44 + 64, 99, 9, 9, 9, 9, 9, 9);
        comesBack(45 + 64, 45, 1, 5, 9, 9, 0);
        comesBack(46 + 64, 45, 1, 6, 9, 9, 0);
        comesBack(47 + 64, 45, 1, 6, 1, 9, 0);
        comesBack(47 + 64, 100, 1, 6, 1, 9, 0);
        TelecontrolPost post = station();
        Master master = reset(post);
        master.ask(45, 1, 5, 9, 9);
        master.ask(45, 2, 5, 9, 9, 0);
        Check.same("its length and its objects before its cause", post.look(3, 6), 0);
    }
}
