import java.util.Arrays;

/** Counts the answers that are not as due, and tells them. */
final class Check {
    private static int wrong = 0;
    private static int looked = 0;

    private Check() {
    }

    interface Call {
        void run();
    }

    static void same(String what, long got, long want) {
        looked++;
        if (got != want) {
            tell(what, Long.toString(got), Long.toString(want));
        }
    }

    static void sameBytes(String what, int[] got, int... want) {
        looked++;
        if (!Arrays.equals(got, want)) {
            tell(what, Arrays.toString(got), Arrays.toString(want));
        }
    }

    static void isTrue(String what, boolean holds) {
        looked++;
        if (!holds) {
            tell(what, "false", "true");
        }
    }

    static void noArgument(String what, Call call) {
        looked++;
        String got = thrownBy(call);
        if (!got.equals("IllegalArgumentException")) {
            tell(what, got, "IllegalArgumentException");
        }
    }

    static void noState(String what, Call call) {
        looked++;
        String got = thrownBy(call);
        if (!got.equals("IllegalStateException")) {
            tell(what, got, "IllegalStateException");
        }
    }

    private static String thrownBy(Call call) {
        try {
            call.run();
            return "nothing thrown";
        } catch (RuntimeException e) {
            return e.getClass().getSimpleName();
        }
    }

    private static void tell(String what, String got, String want) {
        wrong++;
        if (wrong <= 40) {
            System.out.println("  " + what + ": answered " + got + ", due is " + want);
        }
    }

    /** Ends the test: a test that looked at nothing has failed, too. */
    static void end() {
        System.out.println("  " + looked + " looked at, " + wrong + " wrong");
        if (wrong != 0 || looked == 0) {
            System.exit(1);
        }
    }
}
