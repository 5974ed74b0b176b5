/** The other end of a connection: it makes frames, and counts those that go and come. */
final class Peer {
    final TelecontrolPost post;
    final int line;
    int nextToSend = 0;
    int nextToCome = 0;

    Peer(TelecontrolPost post, int line) {
        this.post = post;
        this.line = line;
    }

    /** Opened and started, with the 11 taken. */
    static Peer started(TelecontrolPost post, int line) {
        Peer peer = new Peer(post, line);
        post.open(line);
        peer.start();
        return peer;
    }

    void start() {
        control(7);
        expectControl("start is answered", 11);
    }

    /** Bytes in pieces of eight: how many were taken, up to the one that closed the line. */
    static int give(TelecontrolPost post, int line, int... bytes) {
        int at = 0;
        while (at < bytes.length) {
            int n = Math.min(8, bytes.length - at);
            long packed = 0;
            for (int i = 0; i < n; i++) {
                packed = packed << 8 | bytes[at + i];
            }
            int took = post.receive(line, packed, n);
            at += took;
            if (took < n || post.look(line, 0) == 0) {
                return at;
            }
        }
        return at;
    }

    int give(int... bytes) {
        return give(post, line, bytes);
    }

    int control(int code) {
        return give(104, 4, code, 0, 0, 0);
    }

    /** Confirms all that was taken. */
    int confirm() {
        return confirm(nextToCome);
    }

    int confirm(int number) {
        return give(104, 4, 1, 0, 2 * number & 255, 2 * number >> 8 & 255);
    }

    static int[] frame(int sent, int confirmed, int... asdu) {
        int[] frame = new int[asdu.length + 6];
        frame[0] = 104;
        frame[1] = asdu.length + 4;
        frame[2] = 2 * sent & 255;
        frame[3] = 2 * sent >> 8 & 255;
        frame[4] = 2 * confirmed & 255;
        frame[5] = 2 * confirmed >> 8 & 255;
        System.arraycopy(asdu, 0, frame, 6, asdu.length);
        return frame;
    }

    /** Asks by an I frame that confirms all that was taken. */
    int ask(int... asdu) {
        int took = give(frame(nextToSend, nextToCome, asdu));
        nextToSend = nextToSend + 1 & 32767;
        return took;
    }

    /** Like ask, but it confirms nothing new. */
    int askConfirming(int number, int... asdu) {
        int took = give(frame(nextToSend, number, asdu));
        nextToSend = nextToSend + 1 & 32767;
        return took;
    }

    static int[] takeBytes(TelecontrolPost post, int line, int most) {
        int[] all = new int[1100];
        int many = 0;
        while (many < most) {
            long taken = post.take(line);
            int n = (int) (taken >>> 56);
            for (int i = 0; i < 7; i++) {
                int b = (int) (taken >> 48 - 8 * i) & 255;
                if (i < n) {
                    all[many] = b;
                    many++;
                } else {
                    Check.same("a byte of take() that is none", b, 0);
                }
            }
            if (n < 7) {
                break;
            }
        }
        return java.util.Arrays.copyOf(all, many);
    }

    private int[] left = {};

    /** The next whole frame that waits, empty when there is none. */
    int[] takeFrame() {
        while (left.length < 2 || left.length < left[1] + 2) {
            int[] more = takeBytes(post, line, 7);
            if (more.length == 0) {
                int[] none = left;
                left = new int[0];
                return none;
            }
            int[] joined = java.util.Arrays.copyOf(left, left.length + more.length);
            System.arraycopy(more, 0, joined, left.length, more.length);
            left = joined;
        }
        int[] frame = java.util.Arrays.copyOf(left, left[1] + 2);
        left = java.util.Arrays.copyOfRange(left, frame.length, left.length);
        return frame;
    }

    void expectControl(String what, int code) {
        Check.sameBytes(what, takeFrame(), 104, 4, code, 0, 0, 0);
    }

    void expectSupervisory(String what) {
        Check.sameBytes(what, takeFrame(), 104, 4, 1, 0, 2 * nextToSend & 255, 2 * nextToSend >> 8 & 255);
    }

    /** An I frame with the next number, that confirms all that was sent, and this ASDU. */
    void expect(String what, int... asdu) {
        expectConfirming(what, nextToSend, asdu);
    }

    void expectConfirming(String what, int confirmed, int... asdu) {
        Check.sameBytes(what, takeFrame(), frame(nextToCome, confirmed, asdu));
        nextToCome = nextToCome + 1 & 32767;
    }

    void expectNothing(String what) {
        Check.sameBytes(what, takeFrame());
    }

    void expectState(String what, int state) {
        Check.same(what, post.look(line, 0), state);
    }
}
