/** What is looked at in an ASDU, in which order, and procedures 102, 104, 105. */
public final class ProcedureTest {
    private static final int[] KNOWN = {45, 46, 50, 100, 101, 102, 103, 104, 105};
    private static final int[] BYTES = {1, 1, 5, 1, 1, 0, 7, 2, 1};
    private static final int[] ADDRESSES = {30, 31, 32, 0, 0, 10, 0, 0, 0};

    public static void main(String[] args) {
        shortHeads();
        unknownTypes();
        wrongLengths();
        notOneObject();
        causes();
        stations();
        eachStation();
        addresses();
        order();
        reads();
        tests();
        resets();
        Check.end();
    }

    private static TelecontrolPost station() {
        TelecontrolPost post = new TelecontrolPost(258);
        post.point(10, 4, 0, false);
        post.point(30, 7, 0, false);
        post.point(31, 8, 0, false);
        post.point(32, 9, 0, false);
        post.point(33, 7, 0, true);
        return post;
    }

    private static int indexOf(int type) {
        for (int i = 0; i < KNOWN.length; i++) {
            if (KNOWN[i] == type) {
                return i;
            }
        }
        return -1;
    }

    /** An ASDU that is right as a whole, of station 258. */
    private static int[] good(int type) {
        int i = indexOf(type);
        int[] asdu = new int[9 + BYTES[i]];
        int[] head = {type, 1, type == 102 ? 5 : 6, 77, 2, 1, ADDRESSES[i], 0, 0};
        System.arraycopy(head, 0, asdu, 0, 9);
        if (BYTES[i] > 0) {
            asdu[9] = type == 100 ? 20 : type == 101 ? 5 : type == 104 ? 170 : 1;
        }
        if (type == 103) {
            asdu[13] = 1;
            asdu[14] = 1;
        } else if (type == 104) {
            asdu[10] = 85;
        }
        return asdu;
    }

    private static int[] with(int[] asdu, int at, int b) {
        int[] changed = asdu.clone();
        changed[at] = b;
        return changed;
    }

    private static void comesBack(String what, int[] asdu, int cause) {
        TelecontrolPost post = station();
        Peer peer = Peer.started(post, 0);
        peer.ask(asdu);
        peer.expect(what, with(asdu, 2, cause));
        if (cause >= 64) {
            Check.same(what + ": nothing is begun", post.count(3), 0);
            peer.expectNothing(what + ": nothing else");
            Check.same(what + ": nothing is set", post.count(6), 0);
        }
    }

    private static void closes(String what, int[] asdu) {
        TelecontrolPost post = station();
        Peer peer = Peer.started(post, 0);
        Check.same(what + ": taken", peer.ask(asdu), asdu.length + 6);
        peer.expectState(what, 0);
        Check.same(what + ": nothing is begun", post.count(3), 0);
    }

    private static void shortHeads() {
        int[] types = {45, 100, 104, 1, 255};
        for (int type : types) {
            int[] head = {type, 1, 6, 0, 2, 1};
            for (int length = 0; length < 6; length++) {
                closes("type " + type + " of " + length, java.util.Arrays.copyOf(head, length));
            }
        }
        comesBack("an unknown type with a head alone", new int[] {99, 0, 0, 0, 0, 0}, 44 + 64);
    }

    private static void unknownTypes() {
        for (int type = 0; type < 256; type++) {
            if (indexOf(type) < 0) {
                comesBack("type " + type, new int[] {type, 1, 6, 5, 2, 1, 0, 0, 0, 20}, 44 + 64);
            } else {
                comesBack("type " + type, good(type).length == 9 ? with(good(type), 2, 6) : with(good(type), 2, 5),
                        45 + 64);
            }
        }
        comesBack("many objects, another station, a test", new int[] {1, 130, 128 + 3, 9, 9, 9, 1}, 128 + 64 + 44);
        int[] longest = new int[249];
        java.util.Arrays.fill(longest, 200);
        comesBack("the longest", longest, 128 + 64 + 44);
    }

    private static void wrongLengths() {
        for (int type : KNOWN) {
            int[] asdu = good(type);
            for (int length = 6; length < 30; length++) {
                if (length != asdu.length) {
                    closes("type " + type + " of " + length, java.util.Arrays.copyOf(asdu, length));
                }
            }
            closes("type " + type + " too long, with a wrong cause",
                    with(java.util.Arrays.copyOf(asdu, asdu.length + 1), 2, 63));
        }
    }

    private static void notOneObject() {
        int[] wrong = {0, 2, 127, 128, 129, 255};
        for (int type : KNOWN) {
            for (int many : wrong) {
                closes("type " + type + " with " + many, with(good(type), 1, many));
            }
        }
    }

    private static void causes() {
        for (int type : KNOWN) {
            for (int cause = 0; cause < 64; cause++) {
                boolean command = type == 45 || type == 46 || type == 50;
                boolean fits = type == 102 ? cause == 5 : cause == 6 || command && cause == 8;
                if (!fits) {
                    comesBack("type " + type + " cause " + cause, with(good(type), 2, cause), 45 + 64);
                    comesBack("type " + type + " test " + cause, with(good(type), 2, cause + 128), 45 + 64 + 128);
                }
            }
        }
        comesBack("negative does not matter", with(good(104), 2, 6 + 64), 7);
        comesBack("a test", with(good(104), 2, 6 + 128), 7 + 128);
        comesBack("a test that is negative", with(good(104), 2, 6 + 128 + 64), 7 + 128);
    }

    private static void stations() {
        for (int type : KNOWN) {
            comesBack("type " + type + " to station 257", with(good(type), 4, 1), 46 + 64);
            comesBack("type " + type + " to station 2", with(good(type), 5, 0), 46 + 64);
            comesBack("type " + type + " to station 0", with(with(good(type), 4, 0), 5, 0), 46 + 64);
            comesBack("type " + type + " to station 255", with(with(good(type), 4, 255), 5, 0), 46 + 64);
        }
    }

    private static void eachStation() {
        for (int type : KNOWN) {
            int[] asdu = with(with(good(type), 4, 255), 5, 255);
            if (type == 100 || type == 101 || type == 103 || type == 105) {
                comesBack("type " + type + " to each one", asdu, 7);
            } else {
                comesBack("type " + type + " to each one", asdu, 46 + 64);
            }
        }
    }

    private static void addresses() {
        for (int type : KNOWN) {
            boolean ofPoint = type == 45 || type == 46 || type == 50 || type == 102;
            int own = ADDRESSES[indexOf(type)];
            int[] some = {0, 1, 10, 11, 30, 31, 32, 255};
            for (int address : some) {
                boolean fits = address == own || type == 45 && address == 33;
                if (!fits) {
                    comesBack("type " + type + " at " + address, with(good(type), 6, address), 47 + 64);
                }
            }
            comesBack("type " + type + " at a second byte", with(good(type), 7, 1), 47 + 64);
            comesBack("type " + type + " at a third byte", with(good(type), 8, 1), 47 + 64);
            Check.isTrue("points have an address", ofPoint == (own != 0));
        }
    }

    private static void order() {
        comesBack("the cause before the station", with(with(good(100), 2, 5), 4, 9), 45 + 64);
        comesBack("the cause before the address", with(with(good(45), 2, 5), 6, 9), 45 + 64);
        comesBack("the station before the address", with(with(good(45), 4, 9), 6, 9), 46 + 64);
        comesBack("the address before the byte", with(with(good(100), 6, 9), 9, 9), 47 + 64);
        closes("the length before the cause", java.util.Arrays.copyOf(with(good(45), 2, 5), 11));
    }

    private static void reads() {
        TelecontrolPost post = station();
        post.change(0, -300, 241, false);
        Peer peer = Peer.started(post, 0);
        peer.ask(102, 1, 5, 200, 2, 1, 10, 0, 0);
        peer.expect("a point", 11, 1, 5, 200, 2, 1, 10, 0, 0, 212, 254, 241);
        peer.ask(102, 1, 5 + 128 + 64, 0, 2, 1, 10, 0, 0);
        peer.expect("by a test", 11, 1, 5 + 128, 0, 2, 1, 10, 0, 0, 212, 254, 241);
        peer.ask(102, 1, 5, 0, 2, 1, 30, 0, 0);
        peer.expect("a command is not read", 102, 1, 47 + 64, 0, 2, 1, 30, 0, 0);
        peer.expectNothing("no more");
    }

    private static void tests() {
        comesBack("170, 85", good(104), 7);
        comesBack("171, 85", with(good(104), 9, 171), 7 + 64);
        comesBack("170, 84", with(good(104), 10, 84), 7 + 64);
        comesBack("85, 170", with(with(good(104), 9, 85), 10, 170), 7 + 64);
        comesBack("0, 0, a test", with(with(with(good(104), 9, 0), 10, 0), 2, 134), 7 + 64 + 128);
    }

    private static void resets() {
        TelecontrolPost post = station();
        Peer peer = Peer.started(post, 0);
        peer.ask(45, 1, 6, 0, 2, 1, 33, 0, 0, 129);
        peer.expect("selected", 45, 1, 7, 0, 2, 1, 33, 0, 0, 129);
        Check.same("selected", post.count(4), 4);
        peer.ask(105, 1, 6, 3, 2, 1, 0, 0, 0, 2);
        peer.expect("another byte", 105, 1, 71, 3, 2, 1, 0, 0, 0, 2);
        Check.same("selected still", post.count(4), 4);
        peer.ask(105, 1, 6 + 128, 3, 255, 255, 0, 0, 0, 1);
        peer.expect("it comes back", 105, 1, 7 + 128, 3, 255, 255, 0, 0, 0, 1);
        peer.expect("the end of it", 70, 1, 4 + 128, 3, 2, 1, 0, 0, 0, 2);
        peer.expectNothing("no more");
        Check.same("not selected", post.count(4), -1);
        peer.ask(45, 1, 6, 0, 2, 1, 33, 0, 0, 128);
        peer.expect("selected again", 45, 1, 7, 0, 2, 1, 33, 0, 0, 128);
        Peer other = Peer.started(post, 1);
        other.ask(105, 1, 6, 0, 2, 1, 0, 0, 0, 1);
        Check.same("another line's selection goes, too", post.count(4), -1);
        comesBack("byte 0", with(good(105), 9, 0), 7 + 64);
        comesBack("byte 129", with(good(105), 9, 129), 7 + 64);
    }
}
