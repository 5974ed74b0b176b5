/** Promise 1: a new object. */
public final class NewObjectTest {
    public static void main(String[] args) {
        nothingIsThere();
        ownNumbers();
        otherNumbersAreOne();
        Check.end();
    }

    private static void ownNumbers() {
        int[] numbers = {1, 2, 255, 256, 300, 65533, 65534};
        for (int number : numbers) {
            ownNumber(number, number);
        }
    }

    private static void otherNumbersAreOne() {
        int[] numbers = {0, -1, 65535, 65536, 65537, Integer.MAX_VALUE, Integer.MIN_VALUE};
        for (int number : numbers) {
            ownNumber(number, 1);
        }
    }

    private static void nothingIsThere() {
        TelecontrolPost post = new TelecontrolPost(7);
        for (int line = 0; line <= 3; line++) {
            for (int what = 0; what <= 6; what++) {
                Check.same("look(" + line + ", " + what + ") of a new one", post.look(line, what), 0);
            }
            Check.same("take of a new one", post.take(line), 0);
        }
        for (int what = 0; what <= 6; what++) {
            Check.same("count(" + what + ") of a new one", post.count(what), what == 4 || what == 5 ? -1 : 0);
        }
        Check.same("time of a new one", post.time(), 0);
        Check.noState("line 3 is deaf", () -> post.receive(3, 16, 1));
        Check.noArgument("there are no points", () -> post.change(0, 0, 0, false));
        Check.noArgument("there are no operations", () -> post.operation(0, 0));
        Check.same("the first point", post.point(1, 0, 0, false), 0);
    }

    /** The number is seen in what the station tells of its own. */
    private static void ownNumber(int given, int own) {
        TelecontrolPost post = new TelecontrolPost(given);
        post.point(5, 0, 0, false);
        Peer peer = Peer.started(post, 0);
        peer.ask(102, 1, 5, 0, own & 255, own >> 8, 5, 0, 0);
        peer.expect("station " + given, 1, 1, 5, 0, own & 255, own >> 8, 5, 0, 0, 0);
    }
}
