/** Promise 4: change. */
public final class ChangeTest {
    private static final int[] LEAST = {0, 0, -64, -32768, -32768, Integer.MIN_VALUE, Integer.MIN_VALUE};
    private static final int[] GREATEST = {1, 3, 63, 32767, 32767, Integer.MAX_VALUE, Integer.MAX_VALUE};
    private static final int[] TYPES = {1, 3, 5, 9, 11, 13, 15};
    private static final int[] TIMED = {30, 31, 32, 34, 35, 36, 37};

    public static void main(String[] args) {
        wrongPoints();
        valueEdges();
        qualities();
        toldByKind();
        eventOrNone();
        refusedChangesNothing();
        eventIsAsItWas();
        Check.end();
    }

    private static TelecontrolPost ofAllKinds() {
        TelecontrolPost post = new TelecontrolPost(258);
        for (int kind = 0; kind <= 9; kind++) {
            post.point(1000 + kind, kind, 0, false);
        }
        return post;
    }

    private static void wrongPoints() {
        TelecontrolPost post = ofAllKinds();
        int[] wrong = {-1, 7, 8, 9, 10, 31, 32, 1000, Integer.MAX_VALUE, Integer.MIN_VALUE};
        for (int p : wrong) {
            Check.noArgument("point " + p, () -> post.change(p, 0, 0, true));
            Check.noArgument("point " + p, () -> post.change(p, 0, 0, false));
        }
        Check.same("no event came", post.count(0), 0);
    }

    private static void valueEdges() {
        TelecontrolPost post = ofAllKinds();
        int changes = 0;
        for (int kind = 0; kind <= 6; kind++) {
            int k = kind;
            post.change(kind, LEAST[kind], 0, true);
            post.change(kind, GREATEST[kind], 0, true);
            changes += 2;
            if (kind < 5) {
                Check.noArgument("kind " + k + " below", () -> post.change(k, LEAST[k] - 1, 0, true));
                Check.noArgument("kind " + k + " above", () -> post.change(k, GREATEST[k] + 1, 0, true));
                Check.noArgument("kind " + k + " far above", () -> post.change(k, Integer.MAX_VALUE, 0, false));
                Check.noArgument("kind " + k + " far below", () -> post.change(k, Integer.MIN_VALUE, 0, false));
            }
            Check.same("events", post.count(0), changes);
        }
    }

    private static void qualities() {
        TelecontrolPost post = ofAllKinds();
        for (int kind = 0; kind <= 6; kind++) {
            for (int quality = -1; quality <= 256; quality++) {
                int k = kind;
                int q = quality;
                boolean mayBeOne = kind >= 2 && kind <= 5;
                boolean good = q >= 0 && q < 256 && (q & 14) == 0 && ((q & 1) == 0 || mayBeOne);
                if (good) {
                    post.change(k, 0, q, false);
                } else {
                    Check.noArgument("kind " + k + " quality " + q, () -> post.change(k, 0, q, false));
                }
            }
            int k = kind;
            Check.noArgument("quality far off", () -> post.change(k, 0, Integer.MIN_VALUE, false));
        }
    }

    private static void told(int kind, int value, int quality, int... object) {
        TelecontrolPost post = ofAllKinds();
        post.change(kind, value, quality, true);
        Peer peer = Peer.started(post, 2);
        int address = 1000 + kind;
        int[] event = new int[9 + object.length + 7];
        int[] head = {TIMED[kind], 1, 3, 0, 2, 1, address & 255, address >> 8, 0};
        System.arraycopy(head, 0, event, 0, 9);
        System.arraycopy(object, 0, event, 9, object.length);
        int[] time = {0, 0, 128, 0, 193, 1, 0};
        System.arraycopy(time, 0, event, 9 + object.length, 7);
        peer.expect("event of kind " + kind + " value " + value, event);
        peer.ask(102, 1, 5, 0, 2, 1, address & 255, address >> 8, 0);
        int[] read = java.util.Arrays.copyOf(event, 9 + object.length);
        read[0] = TYPES[kind];
        read[2] = 5;
        peer.expect("kind " + kind + " value " + value, read);
    }

    private static void toldByKind() {
        told(0, 1, 240, 241);
        told(0, 0, 16, 16);
        told(1, 3, 128, 131);
        told(1, 2, 0, 2);
        told(2, -64, 241, 64, 241);
        told(2, 63, 1, 63, 1);
        told(2, -1, 0, 127, 0);
        told(3, -32768, 33, 0, 128, 33);
        told(3, 32767, 0, 255, 127, 0);
        told(4, 258, 1, 2, 1, 1);
        told(4, -2, 80, 254, 255, 80);
        told(5, Float.floatToRawIntBits(1.5f), 0, 0, 0, 192, 63, 0);
        told(5, 0x7fc00001, 97, 1, 0, 192, 127, 97);
        told(6, 0x01020304, 0, 4, 3, 2, 1, 0);
        told(6, -1, 240, 255, 255, 255, 255, 128);
        told(6, -2, 112, 254, 255, 255, 255, 0);
    }

    private static void eventOrNone() {
        TelecontrolPost post = ofAllKinds();
        post.change(0, 1, 0, false);
        Check.same("no event", post.count(0), 0);
        post.change(0, 1, 0, true);
        Check.same("an event, though nothing differs", post.count(0), 1);
        post.change(0, 0, 0, true);
        Check.same("two events", post.count(0), 2);
        Check.same("none was sent", post.count(1), 0);
    }

    private static void refusedChangesNothing() {
        TelecontrolPost post = ofAllKinds();
        post.change(2, 5, 16, false);
        Check.noArgument("wrong value", () -> post.change(2, 64, 32, true));
        Check.noArgument("wrong quality", () -> post.change(2, 6, 2, true));
        Check.same("no event", post.count(0), 0);
        Peer peer = Peer.started(post, 0);
        peer.ask(102, 1, 5, 0, 2, 1, 234, 3, 0);
        peer.expect("as before", 5, 1, 5, 0, 2, 1, 234, 3, 0, 5, 16);
    }

    private static void eventIsAsItWas() {
        TelecontrolPost post = new TelecontrolPost(1);
        post.point(20, 6, 0, false);
        post.clock(59999);
        post.change(0, 7, 128, true);
        post.change(0, 8, 0, false);
        Peer other = Peer.started(post, 1);
        other.expect("sent on the active line", 37, 1, 3, 0, 1, 0, 20, 0, 0, 7, 0, 0, 0, 128, 95, 234, 0, 0, 193, 1, 0);
        other.askConfirming(0, 101, 1, 6, 0, 1, 0, 0, 0, 0, 5);
        post.close(1);
        post.advance(1000);
        Peer peer = Peer.started(post, 0);
        peer.expect("sent again as it was", 37, 1, 3, 0, 1, 0, 20, 0, 0, 7, 0, 0, 0, 128, 95, 234, 0, 0, 193, 1, 0);
        post.change(0, 9, 0, true);
        peer.expect("a later one has the counter's new number",
                37, 1, 3, 0, 1, 0, 20, 0, 0, 9, 0, 0, 0, 1, 231, 3, 1, 0, 193, 1, 0);
    }
}
