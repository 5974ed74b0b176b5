/** Promises 11 and 12: done and operation, with commands 45, 46 and 50. */
public final class CommandTest {
    public static void main(String[] args) {
        singles();
        doubles();
        setPoints();
        selecting();
        selectionRunsOut();
        executingUsesItUp();
        anotherLine();
        leaving();
        oneAtAPoint();
        eightAtOnce();
        doneComesBack();
        doneWrongArguments();
        latestSixteen();
        olderOnesGoOn();
        operationArguments();
        clockDoesNotMoveSelection();
        oneAtAPointOfAllLines();
        eightOfAllLines();
        Check.end();
    }

    /** Points 0 to 2 of kinds 7 to 9 at 30 to 32; 3 to 5 likewise at 40 to 42, that must be selected. */
    private static TelecontrolPost station() {
        TelecontrolPost post = new TelecontrolPost(1);
        for (int i = 0; i < 6; i++) {
            post.point(i < 3 ? 30 + i : 37 + i, 7 + i % 3, 0, i >= 3);
        }
        return post;
    }

    private static int[] command(int type, int cause, int address, int... bytes) {
        int[] asdu = new int[9 + bytes.length];
        int[] head = {type, 1, cause, 7, 1, 0, address, 0, 0};
        System.arraycopy(head, 0, asdu, 0, 9);
        System.arraycopy(bytes, 0, asdu, 9, bytes.length);
        return asdu;
    }

    private static void tell(String what, Peer peer, boolean good, int type, int address, int... bytes) {
        peer.ask(command(type, 6, address, bytes));
        peer.expect(what, command(type, good ? 7 : 71, address, bytes));
    }

    private static void seen(String what, TelecontrolPost post, int k, int point, int value, int b, int line) {
        Check.same(what + ": point", post.operation(k, 0), point);
        Check.same(what + ": value", post.operation(k, 1), value);
        Check.same(what + ": byte", post.operation(k, 2), b);
        Check.same(what + ": line", post.operation(k, 3), line);
        Check.same(what + ": goes on", post.operation(k, 4), 1);
    }

    private static void singles() {
        for (int b = 0; b < 256; b++) {
            TelecontrolPost post = station();
            Peer peer = Peer.started(post, 1);
            boolean executes = b < 128;
            tell("single " + b, peer, executes, 45, 30, b);
            Check.same("operations", post.count(3), executes ? 1 : 0);
            if (executes) {
                seen("single " + b, post, 0, 0, b & 1, b, 1);
            }
            Check.same("a point that need not be selected is not", post.count(4), -1);
        }
    }

    private static void doubles() {
        for (int b = 0; b < 256; b++) {
            TelecontrolPost post = station();
            Peer peer = Peer.started(post, 2);
            boolean right = (b & 3) == 1 || (b & 3) == 2;
            tell("double " + b, peer, right && b < 128, 46, 31, b);
            Check.same("operations", post.count(3), right && b < 128 ? 1 : 0);
            if (right && b < 128) {
                seen("double " + b, post, 0, 1, b & 3, b, 2);
            }
            tell("double that is selected " + b, peer, right && b >= 128, 46, 41, b);
            Check.same("selected", post.count(4), right && b >= 128 ? 4 : -1);
        }
    }

    private static void setPoints() {
        int[] values = {0, 1, -1, Float.floatToRawIntBits(-2.5f), 0x7fc00000, 0x12345678, Integer.MIN_VALUE};
        for (int value : values) {
            TelecontrolPost post = station();
            Peer peer = Peer.started(post, 0);
            int[] bytes = {value & 255, value >> 8 & 255, value >> 16 & 255, value >> 24 & 255, 127};
            tell("set point " + value, peer, true, 50, 32, bytes);
            seen("set point " + value, post, 0, 2, value, 127, 0);
            bytes[4] = 128;
            tell("not to be selected", peer, false, 50, 32, bytes);
            tell("selected", peer, true, 50, 42, bytes);
            bytes[4] = 0;
            tell("executed", peer, true, 50, 42, bytes);
            seen("set point " + value, post, 1, 5, value, 0, 0);
        }
    }

    private static void selecting() {
        TelecontrolPost post = station();
        Peer peer = Peer.started(post, 0);
        tell("not selected", peer, false, 45, 40, 1);
        Check.same("no operation", post.count(3), 0);
        tell("selected", peer, true, 45, 40, 129);
        Check.same("the point", post.count(4), 3);
        tell("selected already", peer, false, 45, 40, 129);
        tell("another point while one is selected", peer, false, 46, 41, 129);
        Check.same("the point still", post.count(4), 3);
        tell("another point is executed", peer, false, 46, 41, 1);
        tell("one that need not be selected", peer, true, 45, 30, 1);
        Check.same("the point still", post.count(4), 3);
        tell("executed", peer, true, 45, 40, 1);
        Check.same("not selected any more", post.count(4), -1);
        seen("the operation", post, 1, 3, 1, 1, 0);
        tell("not selected", peer, false, 45, 40, 1);
        tell("it may be selected while it goes on", peer, true, 45, 40, 129);
        tell("but not executed", peer, false, 45, 40, 1);
        Check.same("and it is not selected then", post.count(4), -1);
    }

    private static void selectionRunsOut() {
        TelecontrolPost post = station();
        Peer peer = Peer.started(post, 0);
        tell("selected", peer, true, 45, 40, 128);
        peer.confirm();
        post.advance(9999);
        Check.same("9,999", post.count(4), 3);
        tell("it is so still", peer, false, 46, 41, 129);
        tell("to select it again is refused, and changes nothing", peer, false, 45, 40, 128);
        peer.confirm();
        post.advance(1);
        Check.same("10,000: it ran out", post.count(4), -1);
        tell("too late", peer, false, 45, 40, 0);
        tell("another one may be selected", peer, true, 46, 41, 130);
        Check.same("the other one", post.count(4), 4);
        peer.confirm();
        post.advance(9999);
        tell("in time", peer, true, 46, 41, 2);
        TelecontrolPost other = station();
        Peer again = Peer.started(other, 0);
        tell("selected", again, true, 45, 40, 128);
        again.confirm();
        other.advance(10000);
        tell("selected again after it ran out", again, true, 45, 40, 128);
        again.confirm();
        other.advance(9999);
        tell("and it counts from then", again, true, 45, 40, 0);
    }

    private static void executingUsesItUp() {
        int[][] wrong = {{45, 40, 129, 0}, {45, 40, 129, 5}, {46, 41, 129, 2}, {46, 41, 129, 3}, {46, 41, 130, 6}};
        for (int[] w : wrong) {
            TelecontrolPost post = station();
            Peer peer = Peer.started(post, 0);
            tell("selected", peer, true, w[0], w[1], w[2]);
            tell("with another byte", peer, false, w[0], w[1], w[3]);
            Check.same("not selected any more", post.count(4), -1);
            tell("with the same byte", peer, false, w[0], w[1], w[2] - 128);
            Check.same("no operation", post.count(3), 0);
        }
        for (int i = 0; i < 5; i++) {
            TelecontrolPost post = station();
            Peer peer = Peer.started(post, 0);
            int[] bytes = {1, 2, 3, 4, 128 + 5};
            tell("selected", peer, true, 50, 42, bytes);
            int[] other = {1, 2, 3, 4, 5};
            other[i] ^= 64;
            tell("with another byte " + i, peer, false, 50, 42, other);
            tell("with the same bytes", peer, false, 50, 42, 1, 2, 3, 4, 5);
        }
    }

    private static void anotherLine() {
        TelecontrolPost post = station();
        Peer first = Peer.started(post, 0);
        tell("selected", first, true, 45, 40, 129);
        Peer second = Peer.started(post, 1);
        tell("another line may not execute it", second, false, 45, 40, 1);
        Check.same("selected still", post.count(4), 3);
        tell("nor select one", second, false, 46, 41, 129);
        second.ask(command(45, 8, 40, 129));
        second.expect("nor leave it", command(45, 73, 40, 129));
        Check.same("selected still", post.count(4), 3);
        first.start();
        tell("the line itself may", first, true, 45, 40, 1);
        Check.same("its line", post.operation(0, 3), 0);
    }

    private static void leaving() {
        TelecontrolPost post = station();
        Peer peer = Peer.started(post, 0);
        peer.ask(command(45, 8, 40, 129));
        peer.expect("none is selected", command(45, 73, 40, 129));
        tell("selected", peer, true, 45, 40, 129);
        peer.ask(command(46, 8, 41, 129));
        peer.expect("another point", command(46, 73, 41, 129));
        Check.same("selected still", post.count(4), 3);
        peer.ask(command(45, 8 + 128, 40, 0));
        peer.expect("left, whatever the byte", command(45, 9 + 128, 40, 0));
        Check.same("not selected", post.count(4), -1);
        tell("not selected", peer, false, 45, 40, 1);
        tell("selected again", peer, true, 45, 40, 129);
        peer.confirm();
        post.advance(10000);
        peer.ask(command(45, 8, 40, 129));
        peer.expect("it ran out", command(45, 73, 40, 129));
        peer.ask(command(50, 8, 32, 0, 0, 0, 0, 0));
        peer.expect("one that need not be selected", command(50, 73, 32, 0, 0, 0, 0, 0));
    }

    private static void oneAtAPoint() {
        TelecontrolPost post = station();
        Peer peer = Peer.started(post, 0);
        tell("begun", peer, true, 45, 30, 1);
        tell("it goes on", peer, false, 45, 30, 1);
        tell("at another point", peer, true, 46, 31, 1);
        Check.same("two", post.count(3), 2);
        Check.same("done", post.done(0, true), 0);
        peer.expect("done", command(45, 10, 30, 1));
        tell("again", peer, true, 45, 30, 0);
        Check.same("three", post.count(3), 3);
    }

    private static void eightAtOnce() {
        TelecontrolPost post = new TelecontrolPost(1);
        for (int i = 0; i < 10; i++) {
            post.point(50 + i, 7, 0, i == 9);
        }
        Peer peer = Peer.started(post, 0);
        for (int i = 0; i < 8; i++) {
            tell("operation " + i, peer, true, 45, 50 + i, 1);
        }
        tell("a ninth", peer, false, 45, 58, 1);
        tell("one may be selected", peer, true, 45, 59, 129);
        tell("but not executed", peer, false, 45, 59, 1);
        Check.same("and is not selected then", post.count(4), -1);
        Check.same("eight", post.count(3), 8);
        post.done(5, false);
        peer.expect("went wrong", command(45, 10 + 64, 55, 1));
        tell("the ninth now", peer, true, 45, 58, 1);
        Check.same("nine", post.count(3), 9);
        Check.same("its point", post.operation(8, 0), 8);
    }

    private static void doneComesBack() {
        TelecontrolPost post = station();
        Peer peer = Peer.started(post, 0);
        peer.ask(command(45, 6 + 128, 30, 5));
        peer.expect("begun", command(45, 7 + 128, 30, 5));
        Check.same("its point", post.done(0, false), 0);
        peer.expect("went wrong, a test", command(45, 10 + 64 + 128, 30, 5));
        Check.same("it does not go on", post.operation(0, 4), 0);
        Check.same("its value is kept", post.operation(0, 1), 1);
        tell("set point", peer, true, 50, 32, 9, 8, 7, 6, 5);
        Peer other = Peer.started(post, 1);
        Check.same("its point", post.done(1, true), 2);
        other.expectNothing("not on another line");
        peer.expectNothing("not while the line is stopped");
        Check.same("it waits", post.look(0, 6), 1);
        peer.start();
        peer.expect("when it is started", command(50, 10, 32, 9, 8, 7, 6, 5));
        tell("again", peer, true, 45, 30, 1);
        post.close(0);
        Check.same("the line was closed", post.done(2, true), 0);
        Check.same("nothing waits", post.look(0, 6), 0);
        Check.same("nothing to take", post.look(0, 1), 0);
        Peer again = Peer.started(post, 0);
        tell("after it was opened again", again, true, 45, 30, 1);
        Check.same("its point", post.done(3, true), 0);
        again.expect("it was not closed since", command(45, 10, 30, 1));
    }

    private static void doneWrongArguments() {
        TelecontrolPost post = station();
        Check.noArgument("none was begun", () -> post.done(0, true));
        Peer peer = Peer.started(post, 0);
        tell("begun", peer, true, 46, 31, 2);
        int[] wrong = {-1, 1, 2, -100, Integer.MAX_VALUE, Integer.MIN_VALUE};
        for (int k : wrong) {
            Check.noArgument("done " + k, () -> post.done(k, true));
        }
        Check.same("done", post.done(0, true), 1);
        Check.noArgument("done twice", () -> post.done(0, true));
        Check.noArgument("done twice, wrong", () -> post.done(0, false));
    }

    private static void latestSixteen() {
        TelecontrolPost post = station();
        Peer peer = Peer.started(post, 0);
        for (int i = 0; i < 40; i++) {
            tell("operation " + i, peer, true, 45, 30, i & 1 | 4 * (i % 16));
            Check.same("so many", post.count(3), i + 1);
            for (int k = -2; k <= i + 1; k++) {
                int number = k;
                if (k >= 0 && k <= i && k > i - 16) {
                    Check.same("value of " + k + " at " + i, post.operation(k, 1), k & 1);
                    Check.same("byte of " + k + " at " + i, post.operation(k, 2), k & 1 | 4 * (k % 16));
                    Check.same("goes on", post.operation(k, 4), k == i ? 1 : 0);
                } else {
                    Check.noArgument("not kept " + k + " at " + i, () -> post.operation(number, 0));
                }
            }
            post.done(i, true);
            peer.expect("done " + i, command(45, 10, 30, i & 1 | 4 * (i % 16)));
        }
    }

    private static void olderOnesGoOn() {
        TelecontrolPost post = new TelecontrolPost(1);
        for (int i = 0; i < 8; i++) {
            post.point(50 + i, 7, 0, false);
        }
        Peer peer = Peer.started(post, 0);
        for (int i = 0; i < 7; i++) {
            tell("operation " + i, peer, true, 45, 50 + i, 4 * i);
        }
        for (int i = 7; i < 47; i++) {
            tell("operation " + i, peer, true, 45, 57, 1);
            post.done(i, true);
            peer.expect("done " + i, command(45, 10, 57, 1));
        }
        for (int k = 0; k < 7; k++) {
            int number = k;
            Check.noArgument("it is not kept", () -> post.operation(number, 4));
            tell("but it goes on", peer, false, 45, 50 + k, 1);
            Check.same("its point", post.done(k, true), k);
            peer.expect("it comes back", command(45, 10, 50 + k, 4 * k));
            Check.noArgument("it is done", () -> post.done(number, true));
        }
        Check.same("the oldest that is kept", post.operation(31, 0), 7);
        Check.noArgument("the one before", () -> post.operation(30, 0));
    }

    private static void operationArguments() {
        TelecontrolPost post = station();
        Peer peer = Peer.started(post, 0);
        tell("begun", peer, true, 45, 30, 1);
        int[] wrong = {-1, 5, 6, Integer.MAX_VALUE, Integer.MIN_VALUE};
        for (int what : wrong) {
            Check.noArgument("what " + what, () -> post.operation(0, what));
        }
        int[] none = {-1, 1, 16, -100, Integer.MAX_VALUE, Integer.MIN_VALUE};
        for (int k : none) {
            Check.noArgument("operation " + k, () -> post.operation(k, 0));
        }
    }

    private static void clockDoesNotMoveSelection() {
        TelecontrolPost post = station();
        Peer peer = Peer.started(post, 0);
        tell("selected", peer, true, 45, 40, 128);
        post.clock(3155759999999L);
        Check.same("the clock leaps forward", post.count(4), 3);
        post.advance(9999);
        post.clock(0);
        Check.same("the clock leaps back", post.count(4), 3);
        post.advance(1);
        Check.same("10,000 went by", post.count(4), -1);
    }

    private static void oneAtAPointOfAllLines() {
        TelecontrolPost post = station();
        Peer first = Peer.started(post, 0);
        tell("begun", first, true, 45, 30, 1);
        Peer second = Peer.started(post, 1);
        tell("it goes on", second, false, 45, 30, 1);
        Master master = Master.reset(post, 1, 1, 1, 1);
        master.ask(45, 1, 6, 1, 30, 1);
        Check.same("nor on line 3", post.count(3), 1);
        post.close(0);
        tell("though its line is closed", second, false, 45, 30, 1);
        Check.same("done", post.done(0, true), 0);
        tell("now it may", second, true, 45, 30, 1);
        Check.same("two", post.count(3), 2);
    }

    private static void eightOfAllLines() {
        TelecontrolPost post = new TelecontrolPost(1);
        for (int i = 0; i < 10; i++) {
            post.point(50 + i, 7, 0, false);
        }
        Master master = Master.reset(post, 1, 1, 1, 1);
        for (int i = 0; i < 4; i++) {
            master.ask(45, 1, 6, 1, 50 + i, 1);
        }
        Peer first = Peer.started(post, 0);
        tell("the fifth", first, true, 45, 54, 1);
        tell("the sixth", first, true, 45, 55, 1);
        Peer second = Peer.started(post, 1);
        tell("the seventh", second, true, 45, 56, 1);
        tell("the eighth", second, true, 45, 57, 1);
        tell("a ninth", second, false, 45, 58, 1);
        master.ask(45, 1, 6, 1, 59, 1);
        Check.same("eight", post.count(3), 8);
        post.close(0);
        tell("those of a closed line go on", second, false, 45, 58, 1);
        Check.same("one of them is done", post.done(4, true), 4);
        tell("the ninth now", second, true, 45, 58, 1);
        Check.same("nine", post.count(3), 9);
    }
}
