/** Promise 2: point. */
public final class PointTest {
    public static void main(String[] args) {
        numbersAndRoom();
        edges();
        wrongArguments();
        refusedOnesLeaveNothing();
        kindsAreKept();
        Check.end();
    }

    private static void numbersAndRoom() {
        TelecontrolPost post = new TelecontrolPost(1);
        for (int i = 0; i < 32; i++) {
            Check.same("point " + i, post.point(1000 - i, i % 10, i % 17, false), i);
        }
        Check.noState("a 33rd point", () -> post.point(2000, 0, 0, false));
        Check.noState("a 33rd point at an address that is there", () -> post.point(1000, 0, 0, false));
        Check.noArgument("a 33rd point that is wrong", () -> post.point(0, 0, 0, false));
        Check.noArgument("a 33rd point of a wrong kind", () -> post.point(2000, 10, 0, false));
    }

    private static void edges() {
        TelecontrolPost post = new TelecontrolPost(1);
        Check.same("least address", post.point(1, 0, 0, false), 0);
        Check.same("greatest address", post.point(65535, 9, 16, true), 1);
        Check.noState("address that is there, another kind", () -> post.point(1, 5, 3, false));
        Check.noState("greatest address again", () -> post.point(65535, 9, 16, true));
        Check.same("commands need not select", post.point(2, 7, 0, false), 2);
        Check.same("single command that selects", post.point(3, 7, 0, true), 3);
        Check.same("double command that selects", post.point(4, 8, 1, true), 4);
        Check.same("set point that selects", post.point(5, 9, 2, true), 5);
    }

    private static void wrongArguments() {
        TelecontrolPost post = new TelecontrolPost(1);
        post.point(10, 0, 0, false);
        int[] addresses = {0, -1, 65536, 65546, Integer.MAX_VALUE, Integer.MIN_VALUE};
        for (int address : addresses) {
            Check.noArgument("address " + address, () -> post.point(address, 0, 0, false));
        }
        int[] kinds = {-1, 10, 11, Integer.MAX_VALUE, Integer.MIN_VALUE};
        for (int kind : kinds) {
            Check.noArgument("kind " + kind, () -> post.point(20, kind, 0, false));
            Check.noArgument("kind " + kind + " at an address that is there", () -> post.point(10, kind, 0, true));
        }
        int[] groups = {-1, 17, 100, Integer.MAX_VALUE, Integer.MIN_VALUE};
        for (int group : groups) {
            Check.noArgument("group " + group, () -> post.point(20, 0, group, false));
            Check.noArgument("group " + group + " of a command", () -> post.point(20, 7, group, true));
        }
        for (int kind = 0; kind <= 6; kind++) {
            int k = kind;
            Check.noArgument("kind " + kind + " that selects", () -> post.point(20, k, 0, true));
        }
    }

    private static void refusedOnesLeaveNothing() {
        TelecontrolPost post = new TelecontrolPost(1);
        Check.noArgument("wrong group", () -> post.point(20, 0, 17, false));
        Check.same("the address is free still", post.point(20, 0, 16, false), 0);
        Check.noState("the address is there", () -> post.point(20, 0, 16, false));
        Check.same("the next number", post.point(21, 0, 16, false), 1);
    }

    /** A new point is 0 with quality 0, and told by its kind's type. */
    private static void kindsAreKept() {
        TelecontrolPost post = new TelecontrolPost(1);
        for (int kind = 0; kind <= 6; kind++) {
            post.point(65000 + kind, kind, 0, false);
        }
        Peer peer = Peer.started(post, 1);
        int[] types = {1, 3, 5, 9, 11, 13, 15};
        int[] bytes = {1, 1, 2, 3, 3, 5, 5};
        for (int kind = 0; kind <= 6; kind++) {
            int address = 65000 + kind;
            peer.ask(102, 1, 5, 0, 1, 0, address & 255, address >> 8, 0);
            int[] told = new int[9 + bytes[kind]];
            int[] head = {types[kind], 1, 5, 0, 1, 0, address & 255, address >> 8, 0};
            System.arraycopy(head, 0, told, 0, 9);
            peer.expect("a new point of kind " + kind, told);
        }
    }
}
