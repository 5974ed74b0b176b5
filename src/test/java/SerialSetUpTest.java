/** Promise 3: serial. */
public final class SerialSetUpTest {
    public static void main(String[] args) {
        wrongArguments();
        stationMustFit();
        itHears();
        sizesAreUsed();
        setUpAgain();
        refusedSetUpChangesNothing();
        Check.end();
    }

    private static void wrongArguments() {
        TelecontrolPost post = new TelecontrolPost(1);
        int[] addresses = {-1, 255, 256, Integer.MAX_VALUE, Integer.MIN_VALUE};
        for (int address : addresses) {
            Check.noArgument("link address " + address, () -> post.serial(address, 1, 1, 1));
        }
        int[] sizes = {0, 3, -1, 257, Integer.MIN_VALUE};
        for (int size : sizes) {
            Check.noArgument("size of cause " + size, () -> post.serial(0, size, 1, 1));
            Check.noArgument("size of station " + size, () -> post.serial(0, 1, size, 1));
        }
        int[] objects = {0, 4, -1, 258, Integer.MAX_VALUE};
        for (int size : objects) {
            Check.noArgument("size of address " + size, () -> post.serial(0, 1, 1, size));
        }
        Check.same("it is deaf still", post.look(3, 0), 0);
        Check.noState("deaf", () -> post.receive(3, 0, 1));
        post.serial(0, 1, 1, 1);
        Check.same("least", post.look(3, 0), 1);
        post.serial(254, 2, 2, 3);
        Check.same("greatest", post.look(3, 0), 1);
    }

    private static void stationMustFit() {
        int[] tooLong = {256, 257, 300, 65534};
        for (int station : tooLong) {
            TelecontrolPost post = new TelecontrolPost(station);
            Check.noArgument("station " + station + " in one byte", () -> post.serial(1, 1, 1, 1));
            Check.same("deaf after that", post.look(3, 0), 0);
            post.serial(1, 1, 2, 1);
            Check.same("in two bytes", post.look(3, 0), 1);
        }
        TelecontrolPost post = new TelecontrolPost(255);
        post.serial(1, 1, 1, 1);
        Check.same("255 in one byte", post.look(3, 0), 1);
        TelecontrolPost other = new TelecontrolPost(65535);
        other.serial(1, 1, 1, 1);
        Check.same("station 1 for a wrong one", other.look(3, 0), 1);
    }

    private static void itHears() {
        TelecontrolPost post = new TelecontrolPost(1);
        post.serial(254, 1, 1, 2);
        Master master = new Master(post, 254);
        master.shortFrame(64 + 9);
        master.expectShort("state before the reset", 11);
        Check.same("not reset", post.look(3, 0), 1);
        Check.same("not active", post.count(5), -1);
        master.shortFrame(64);
        master.expectShort("reset", 0);
        Check.same("reset", post.look(3, 0), 2);
        Check.same("active", post.count(5), 3);
    }

    private static void sizesAreUsed() {
        for (int cause = 1; cause <= 2; cause++) {
            for (int station = 1; station <= 2; station++) {
                for (int object = 1; object <= 3; object++) {
                    readBySizes(cause, station, object);
                }
            }
        }
    }

    private static void readBySizes(int cause, int station, int object) {
        TelecontrolPost post = new TelecontrolPost(77);
        post.point(200, 3, 0, false);
        post.change(0, -2, 64, false);
        Master master = Master.reset(post, 9, cause, station, object);
        int head = 2 + cause + station;
        int[] asked = new int[head + object];
        asked[0] = 102;
        asked[1] = 1;
        asked[2] = 5;
        if (cause == 2) {
            asked[3] = 99;
        }
        asked[2 + cause] = 77;
        asked[head] = 200;
        int[] told = java.util.Arrays.copyOf(asked, asked.length + 3);
        told[0] = 9;
        told[asked.length] = 254;
        told[asked.length + 1] = 255;
        told[asked.length + 2] = 64;
        master.ask(asked);
        master.expectShort("taken, with class 1", 32);
        master.askClass(1);
        master.expectLong("sizes " + cause + station + object, 8, told);
    }

    private static void setUpAgain() {
        TelecontrolPost post = new TelecontrolPost(1);
        post.point(30, 7, 0, true);
        Master master = Master.reset(post, 1, 1, 1, 1);
        master.ask(45, 1, 6, 1, 30, 129);
        Check.same("selected", post.count(4), 0);
        Check.same("an answer", post.look(3, 6), 1);
        Check.same("bytes wait", post.look(3, 1), 5);
        Check.same("half a frame comes", post.receive(3, 16 << 8 | 73, 2), 2);
        post.serial(2, 2, 2, 3);
        Check.same("not reset", post.look(3, 0), 1);
        Check.same("nothing waits", post.look(3, 1), 0);
        Check.same("no answers", post.look(3, 6), 0);
        Check.same("nothing selected by it", post.count(4), -1);
        Check.same("not active", post.count(5), -1);
        Check.same("the half frame's end", Peer.give(post, 3, 2, 75, 22), 3);
        Check.same("the half frame is gone", post.look(3, 1), 0);
        Master old = new Master(post, 1);
        old.shortFrame(64);
        old.expectNothing("the old address");
        Master now = new Master(post, 2);
        now.shortFrame(64 + 32 + 16 + 10);
        now.expectNothing("class 1 before the reset");
        now.shortFrame(64);
        now.expectShort("the new address", 0);
        now.shortFrame(64 + 16 + 10);
        now.expectNothing("what was kept is gone");
    }

    private static void refusedSetUpChangesNothing() {
        TelecontrolPost post = new TelecontrolPost(1);
        post.point(30, 7, 0, true);
        Master master = Master.reset(post, 1, 1, 1, 1);
        master.ask(45, 1, 6, 1, 30, 129);
        Check.noArgument("wrong address", () -> post.serial(255, 1, 1, 1));
        Check.same("reset still", post.look(3, 0), 2);
        Check.same("bytes wait still", post.look(3, 1), 5);
        Check.same("the answer is there still", post.look(3, 6), 1);
        Check.same("selected still", post.count(4), 0);
        Peer peer = Peer.started(post, 0);
        post.advance(10000);
        peer.ask(45, 1, 6, 0, 1, 0, 30, 0, 0, 128);
        Check.same("selected by a connection", post.count(4), 0);
        post.serial(1, 1, 1, 1);
        Check.same("what another line selected stays", post.count(4), 0);
    }
}
