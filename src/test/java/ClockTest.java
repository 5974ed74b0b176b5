import java.time.LocalDateTime;
import java.time.temporal.ChronoUnit;

/** Promises 5 and 15: clock and time, with the procedure that sets the clock (103). */
public final class ClockTest {
    private static final LocalDateTime BEGIN = LocalDateTime.of(2000, 1, 1, 0, 0);
    private static final long LAST = 3155759999999L;

    public static void main(String[] args) {
        range();
        goesOnByAdvanceAlone();
        eventTimes();
        afterTheLastYear();
        setByProcedure();
        noTimes();
        bitsThatDoNotMatter();
        timersDoNotMove();
        Check.end();
    }

    private static void range() {
        TelecontrolPost post = new TelecontrolPost(1);
        long[] wrong = {-1, LAST + 1, Long.MAX_VALUE, Long.MIN_VALUE, 1L << 62};
        for (long time : wrong) {
            Check.noArgument("clock " + time, () -> post.clock(time));
            Check.same("not set", post.count(6), 0);
            Check.same("as it was", post.time(), 0);
        }
        post.clock(0);
        Check.same("set", post.count(6), 1);
        Check.same("the beginning", post.time(), 0);
        post.clock(LAST);
        Check.same("the end", post.time(), LAST);
        Check.noArgument("clock after the end", () -> post.clock(LAST + 1));
        Check.same("the end still", post.time(), LAST);
        post.advance(1);
        Check.same("past the end", post.time(), LAST + 1);
        post.clock(5);
        Check.same("back", post.time(), 5);
    }

    private static void goesOnByAdvanceAlone() {
        TelecontrolPost post = new TelecontrolPost(1);
        post.advance(100000);
        Check.same("goes on though it is not set", post.time(), 100000);
        Check.same("not set by that", post.count(6), 0);
        post.clock(777);
        post.point(1, 0, 0, false);
        post.open(0);
        post.take(0);
        post.change(0, 1, 0, true);
        Check.same("no call moves it", post.time(), 777);
        post.advance(0);
        Check.same("nothing goes by", post.time(), 777);
        post.advance(23);
        Check.same("so much goes by", post.time(), 800);
    }

    private static int[] timeBytes(long time, boolean set) {
        LocalDateTime t = BEGIN.plus(time, ChronoUnit.MILLIS);
        int ms = t.getSecond() * 1000 + t.getNano() / 1000000;
        return new int[] {ms & 255, ms >> 8, t.getMinute() + (set ? 0 : 128), t.getHour(),
            t.getDayOfMonth() + 32 * t.getDayOfWeek().getValue(), t.getMonthValue(), t.getYear() % 100};
    }

    private static long of(int year, int month, int day, int hour, int minute, int ms) {
        return BEGIN.until(LocalDateTime.of(year, month, day, hour, minute), ChronoUnit.MILLIS) + ms;
    }

    private static long[] manyTimes() {
        long[] chosen = {0, 1, 59999, 60000, 3599999, 3600000, 86399999, 86400000, LAST, LAST - 86400000,
            of(2000, 2, 28, 23, 59, 59999), of(2000, 2, 29, 0, 0, 0), of(2000, 2, 29, 23, 59, 59999),
            of(2000, 3, 1, 0, 0, 0), of(2000, 12, 31, 23, 59, 59999), of(2001, 1, 1, 0, 0, 0),
            of(2001, 2, 28, 12, 0, 0), of(2001, 3, 1, 0, 0, 0), of(2004, 2, 29, 1, 2, 3),
            of(2024, 2, 29, 13, 14, 15016), of(2026, 11, 15, 20, 15, 30000), of(2099, 2, 28, 23, 0, 1),
            of(2096, 2, 29, 0, 0, 0), of(2099, 12, 31, 23, 59, 59999)};
        long[] all = new long[chosen.length + 1200];
        System.arraycopy(chosen, 0, all, 0, chosen.length);
        java.util.Random random = new java.util.Random(5);
        for (int i = chosen.length; i < all.length; i++) {
            all[i] = (long) (random.nextDouble() * LAST);
        }
        return all;
    }

    private static TelecontrolPost withPoint() {
        TelecontrolPost post = new TelecontrolPost(1);
        post.point(9, 0, 0, false);
        return post;
    }

    private static int[] eventAt(int... time) {
        int[] event = {30, 1, 3, 0, 1, 0, 9, 0, 0, 1, 0, 0, 0, 0, 0, 0, 0};
        System.arraycopy(time, 0, event, 10, 7);
        return event;
    }

    private static void eventTimes() {
        for (long time : manyTimes()) {
            TelecontrolPost post = withPoint();
            post.clock(time);
            post.change(0, 1, 0, true);
            Peer.started(post, 0).expect("event at " + time, eventAt(timeBytes(time, true)));
        }
        TelecontrolPost post = withPoint();
        post.advance(61234);
        post.change(0, 1, 0, true);
        Peer peer = Peer.started(post, 0);
        peer.expect("the clock is not set", eventAt(timeBytes(61234, false)));
    }

    private static void afterTheLastYear() {
        TelecontrolPost post = withPoint();
        Peer peer = Peer.started(post, 0);
        post.clock(LAST);
        post.change(0, 1, 0, true);
        peer.expect("the last moment of 2099", eventAt(95, 234, 59, 23, 31 + 32 * 4, 12, 99));
        post.advance(1);
        post.change(0, 1, 0, true);
        peer.expect("the year 2100 is 0 of 100", eventAt(0, 0, 0, 0, 1 + 32 * 5, 1, 0));
    }

    private static int[] askFor(int... time) {
        int[] asdu = {103, 1, 6, 3, 1, 0, 0, 0, 0, 0, 0, 0, 0, 0, 0, 0};
        System.arraycopy(time, 0, asdu, 9, 7);
        return asdu;
    }

    private static int[] answer(int cause, int... time) {
        int[] asdu = askFor(time);
        asdu[2] = cause;
        return asdu;
    }

    private static void setByProcedure() {
        for (long time : manyTimes()) {
            TelecontrolPost post = new TelecontrolPost(1);
            Peer peer = Peer.started(post, 0);
            int[] bytes = timeBytes(time, true);
            peer.ask(askFor(bytes));
            Check.same("clock is set to " + time, post.time(), time);
            Check.same("it is set", post.count(6), 1);
            peer.expect("it comes back as it came", answer(7, bytes));
        }
    }

    private static void noTime(String what, int... time) {
        TelecontrolPost post = new TelecontrolPost(1);
        post.advance(5);
        Peer peer = Peer.started(post, 0);
        peer.ask(askFor(time));
        Check.same(what + ": not set", post.count(6), 0);
        Check.same(what + ": nothing done", post.time(), 5);
        peer.expect(what + ": negative", answer(7 + 64, time));
    }

    private static void noTimes() {
        noTime("60,000 milliseconds", 96, 234, 0, 0, 1, 1, 0);
        noTime("65,535 milliseconds", 255, 255, 0, 0, 1, 1, 0);
        noTime("minute 60", 0, 0, 60, 0, 1, 1, 0);
        noTime("minute 63", 0, 0, 63, 0, 1, 1, 0);
        noTime("hour 24", 0, 0, 0, 24, 1, 1, 0);
        noTime("hour 31", 0, 0, 0, 31, 1, 1, 0);
        noTime("day 0", 0, 0, 0, 0, 0, 1, 0);
        noTime("month 0", 0, 0, 0, 0, 1, 0, 0);
        noTime("month 13", 0, 0, 0, 0, 1, 13, 0);
        noTime("month 15", 0, 0, 0, 0, 1, 15, 0);
        noTime("30 February", 0, 0, 0, 0, 30, 2, 0);
        noTime("29 February 2001", 0, 0, 0, 0, 29, 2, 1);
        noTime("29 February 2099", 0, 0, 0, 0, 29, 2, 99);
        noTime("31 April", 0, 0, 0, 0, 31, 4, 4);
        noTime("31 June", 0, 0, 0, 0, 31, 6, 4);
        noTime("31 September", 0, 0, 0, 0, 31, 9, 4);
        noTime("31 November", 0, 0, 0, 0, 31, 11, 4);
        noTime("year 100", 0, 0, 0, 0, 1, 1, 100);
        noTime("year 127", 0, 0, 0, 0, 1, 1, 127);
    }

    private static void bitsThatDoNotMatter() {
        TelecontrolPost post = new TelecontrolPost(1);
        Peer peer = Peer.started(post, 0);
        long time = of(2024, 2, 29, 13, 14, 15016);
        int[] bytes = timeBytes(time, true);
        int[] more = {0, 0, 192, 224, 0, 240, 128};
        for (int weekday = 0; weekday <= 7; weekday++) {
            for (int i = 0; i < 7; i++) {
                int[] asked = bytes.clone();
                asked[4] = bytes[4] & 31 | 32 * weekday;
                asked[i] |= more[i];
                post.clock(0);
                peer.ask(askFor(asked));
                Check.same("bits more in byte " + i + ", weekday " + weekday, post.time(), time);
                peer.expect("as it came", answer(7, asked));
            }
        }
    }

    private static void timersDoNotMove() {
        TelecontrolPost post = new TelecontrolPost(1);
        Peer peer = Peer.started(post, 0);
        post.clock(LAST);
        Check.same("no timer runs out by the clock", post.advance(0), 0);
        peer.expectNothing("no test goes by the clock");
        post.advance(15000);
        post.clock(0);
        post.advance(5000);
        peer.expectControl("a test goes after 20,000 all the same", 67);
        Check.same("late 15,000 after the test", post.advance(15000), 1);
        proceduresMoveNone();
    }

    private static void proceduresMoveNone() {
        TelecontrolPost post = new TelecontrolPost(1);
        Peer peer = Peer.started(post, 0);
        peer.ask(askFor(timeBytes(LAST, true)));
        peer.expect("the clock is set", answer(7, timeBytes(LAST, true)));
        Check.same("no timer runs out by that", post.advance(0), 0);
        peer.expectNothing("no test goes by that");
        Check.same("14,999 since the answer went", post.advance(14999), 0);
        Check.same("15,000 since the answer went", post.advance(1), 1);
    }
}
