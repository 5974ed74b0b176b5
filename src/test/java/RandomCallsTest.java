import java.util.Random;

/**
 * Calls by chance, the same in each run of the test: whatever is called, only the exceptions of the
 * document come, what is told stays within its bounds, and two objects answer alike.
 */
public final class RandomCallsTest {
    private static final int[] TYPES = {45, 46, 50, 100, 100, 101, 102, 103, 104, 105, 1, 70};
    private static final int[] BYTES = {1, 1, 5, 1, 1, 1, 0, 7, 2, 1, 1, 1};

    private final Random random;
    private final TelecontrolPost[] posts = new TelecontrolPost[2];
    private final int[] numberSent = new int[3];
    private final boolean[] known = new boolean[3];
    private int points = 0;
    private int bit = 0;

    private RandomCallsTest(long seed) {
        random = new Random(seed);
        int station = random.nextInt(10) == 0 ? random.nextInt(70000) : 1;
        posts[0] = new TelecontrolPost(station);
        posts[1] = new TelecontrolPost(station);
    }

    private interface Call {
        long on(TelecontrolPost post);
    }

    public static void main(String[] args) {
        for (int seed = 0; seed < 1500; seed++) {
            RandomCallsTest run = new RandomCallsTest(seed);
            for (int i = 0; i < 512; i++) {
                run.step();
            }
        }
        Check.end();
    }

    /** The answer, or a number below all answers for an exception that may come. */
    private long call(String what, boolean mayState, Call call) {
        long[] answers = new long[2];
        for (int i = 0; i < 2; i++) {
            try {
                answers[i] = call.on(posts[i]);
            } catch (IllegalArgumentException e) {
                answers[i] = Long.MIN_VALUE;
            } catch (IllegalStateException e) {
                answers[i] = Long.MIN_VALUE + 1;
                Check.isTrue(what + " may throw IllegalStateException", mayState);
            }
        }
        Check.same(what + " answers alike", answers[0], answers[1]);
        return answers[0];
    }

    private void step() {
        switch (random.nextInt(16)) {
            case 0:
                int address = random.nextInt(40) == 0 ? random.nextInt() : 1 + random.nextInt(60);
                int kind = random.nextInt(20) == 0 ? random.nextInt() : random.nextInt(10);
                int group = random.nextInt(4);
                boolean selects = kind > 6 && random.nextBoolean();
                if (call("point", true, p -> p.point(address, kind, group, selects)) >= 0) {
                    points++;
                }
                break;
            case 1:
                int size = 1 + random.nextInt(2);
                int object = 1 + random.nextInt(3);
                if (random.nextInt(8) == 0) {
                    bit = 0;
                    call("serial", false, p -> {
                        p.serial(1, size, size, object);
                        return 0;
                    });
                }
                break;
            case 2:
            case 3:
                int point = random.nextInt(points + 1);
                int value = random.nextInt(3) == 0 ? random.nextInt() : random.nextInt(4) - 1;
                int quality = 16 * random.nextInt(16);
                call("change", false, p -> {
                    p.change(point, value, quality, true);
                    return 0;
                });
                break;
            case 4:
                int time = random.nextInt(4) == 0 ? random.nextInt(20000) : random.nextInt(500);
                Check.isTrue("lines closed", call("advance", false, p -> p.advance(time)) <= 3);
                break;
            case 5:
                openOrClose();
                break;
            case 6:
                int k = random.nextInt(30) - 1;
                call("done", false, p -> p.done(k, true));
                int what = random.nextInt(6);
                call("operation", false, p -> p.operation(k, what));
                break;
            case 7:
            case 8:
                give(3, serialFrame());
                break;
            case 9:
                takeAll(3);
                break;
            default:
                useConnection(random.nextInt(3));
                break;
        }
        bounds();
    }

    private void openOrClose() {
        int line = random.nextInt(4);
        boolean open = random.nextInt(5) != 0;
        long answer = call("open or close", true, p -> {
            if (open) {
                p.open(line);
            } else {
                p.close(line);
            }
            return 0;
        });
        if (answer == 0 && line < 3) {
            numberSent[line] = 0;
            known[line] = true;
        }
    }

    private void useConnection(int line) {
        int which = random.nextInt(24);
        if (which < 4) {
            int[] codes = {7, 7, 7, 7, 7, 19, 67, 131};
            give(line, new int[] {104, 4, codes[random.nextInt(8)], 0, 0, 0});
        } else if (which < 9) {
            takeAll(line);
        } else if (which < 11) {
            int number = 2 * (posts[0].look(line, 2) - random.nextInt(posts[0].look(line, 3) + 1) & 32767);
            give(line, new int[] {104, 4, 1, 0, number & 255, number >> 8});
        } else if (which == 11 && random.nextInt(8) == 0) {
            give(line, new int[] {104, random.nextInt(256), random.nextInt(256), 0, 0, 0});
        } else if (posts[0].look(line, 0) == 2) {
            int confirmed = posts[0].look(line, 2) - random.nextInt(posts[0].look(line, 3) + 1) & 32767;
            give(line, Peer.frame(posts[0].look(line, 4), confirmed, asdu(2, 2, 3)));
        }
    }

    private int[] asdu(int cause, int station, int object) {
        int which = random.nextInt(TYPES.length);
        int head = 2 + cause + station;
        int[] asdu = new int[head + object + BYTES[which] + (random.nextInt(40) == 0 ? 1 : 0)];
        asdu[0] = TYPES[which];
        asdu[1] = random.nextInt(60) == 0 ? 2 : 1;
        asdu[2] = TYPES[which] == 102 ? 5 : random.nextInt(10) == 0 ? random.nextInt(256) : 6;
        asdu[2 + cause] = random.nextInt(20) == 0 ? random.nextInt(256) : 1;
        asdu[head] = TYPES[which] >= 100 && TYPES[which] != 102 ? 0 : 1 + random.nextInt(60);
        for (int i = head + object; i < asdu.length; i++) {
            asdu[i] = random.nextInt(256);
        }
        if (TYPES[which] == 100) {
            asdu[head + object] = 20 + random.nextInt(4);
        } else if (TYPES[which] == 101) {
            asdu[head + object] = random.nextInt(7);
        } else if (TYPES[which] < 50 && TYPES[which] > 1) {
            asdu[head + object] = 128 * random.nextInt(2) + random.nextInt(3);
        }
        return asdu;
    }

    private int[] serialFrame() {
        int next = random.nextInt(6) == 0 ? bit : bit ^ 32;
        switch (random.nextInt(9)) {
            case 0:
                bit = 0;
                return Master.shortBytes(64, 1);
            case 1:
                return Master.shortBytes(64 + 9, 1);
            case 2:
                return new int[] {random.nextInt(256), 16, 16, 104};
            case 3:
                return Master.longBytes(64 + 4, 1, asdu(1, 1, 1 + random.nextInt(2)));
            case 4:
            case 5:
                bit = next;
                return Master.longBytes(64 + bit + 16 + 3, 1, asdu(1 + random.nextInt(2), 1, 1 + random.nextInt(3)));
            case 6:
                bit = next;
                return Master.shortBytes(64 + bit + 16 + 11, 1);
            default:
                bit = next;
                return Master.shortBytes(64 + bit + 16 + 10, 1);
        }
    }

    private void give(int line, int[] bytes) {
        int at = 0;
        while (at < bytes.length) {
            int n = Math.min(1 + random.nextInt(8), bytes.length - at);
            long packed = random.nextLong();
            for (int i = 0; i < n; i++) {
                packed = packed << 8 | bytes[at + i];
            }
            long all = packed;
            boolean wasClosed = posts[0].look(line, 0) == 0;
            long took = call("receive", wasClosed, p -> p.receive(line, all, n));
            boolean isClosed = posts[0].look(line, 0) == 0;
            Check.isTrue("all were taken, or the line is closed", took == n || isClosed);
            if (took < n || isClosed) {
                return;
            }
            at += n;
        }
    }

    /** Takes all that waits of a line: whole frames, with numbers in order. */
    private void takeAll(int line) {
        int[] all = new int[4000];
        int many = 0;
        boolean more = true;
        while (more && many < 3900) {
            long taken = call("take", false, p -> p.take(line));
            int n = (int) (taken >>> 56);
            Check.isTrue("at most seven", n <= 7);
            for (int i = 0; i < n; i++) {
                all[many + i] = (int) (taken >> 48 - 8 * i) & 255;
            }
            many += n;
            more = n == 7;
        }
        int at = 0;
        while (at < many) {
            int length = frameLength(line, all, at);
            Check.isTrue("a whole frame of line " + line, at + length <= many);
            if (line < 3 && all[at + 2] % 2 == 0 && known[line]) {
                Check.same("its number", all[at + 2] / 2 + 128 * all[at + 3], numberSent[line]);
                numberSent[line]++;
            }
            at += length;
        }
    }

    private static int frameLength(int line, int[] all, int at) {
        if (line < 3) {
            Check.same("a frame's first byte", all[at], 104);
            return all[at + 1] + 2;
        }
        boolean isLong = all[at] == 104;
        int length = isLong ? all[at + 1] + 6 : 5;
        int sum = 0;
        for (int i = isLong ? 4 : 1; i < length - 2; i++) {
            sum += all[at + i];
        }
        Check.same("a frame's sum", all[at + length - 2], sum & 255);
        Check.same("a frame's end", all[at + length - 1], 22);
        return length;
    }

    private void bounds() {
        TelecontrolPost post = posts[0];
        int started = 0;
        for (int line = 0; line <= 3; line++) {
            int state = post.look(line, 0);
            Check.isTrue("bytes", post.look(line, 1) <= (line == 3 ? 259 : 1000));
            Check.isTrue("unconfirmed", post.look(line, 3) <= 12);
            Check.isTrue("came", post.look(line, 5) < 8);
            Check.isTrue("answers", post.look(line, 6) <= 16);
            for (int what = 1; what <= 6 && state == 0; what++) {
                Check.same("look " + what + " of a closed line", post.look(line, what), 0);
            }
            if (state == 2 && line < 3) {
                started++;
                Check.same("the started one is active", post.count(5), line);
                boolean full = post.look(line, 3) == 12 || post.look(line, 1) >= 256;
                Check.isTrue("no answer waits without need", full || post.look(line, 6) == 0);
                Check.isTrue("no event waits without need", full || post.count(0) == post.count(1));
            }
            if (state == 3) {
                Check.isTrue("a stopping one has unconfirmed frames", post.look(line, 3) > 0);
            }
        }
        Check.isTrue("at most one is started", started <= 1);
        Check.isTrue("events", post.count(0) <= 48 && post.count(1) <= post.count(0));
    }
}
