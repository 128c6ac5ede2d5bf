/** Counts what is not as it should be; a test's main method ends with finish(). */
final class Check {
    /** A call that should throw. */
    interface Call {
        void run();
    }

    private static int checks = 0;
    private static int wrong = 0;

    private Check() {
    }

    static void same(String what, long got, long want) {
        checks++;
        if (got != want) {
            tell(what + ": got " + got + ", due is " + want);
        }
    }

    static void same(String what, boolean got, boolean want) {
        same(what, got ? 1 : 0, want ? 1 : 0);
    }

    static void same(String what, float got, float want) {
        same(what, (long) Float.floatToIntBits(got), (long) Float.floatToIntBits(want));
    }

    static void same(String what, double got, double want) {
        same(what, Double.doubleToLongBits(got), Double.doubleToLongBits(want));
    }

    static void same(String what, String got, String want) {
        checks++;
        if (!got.equals(want)) {
            tell(what + ":\n  got    " + got + "\n  due is " + want);
        }
    }

    /** The call must throw just this class, not one below it, and by itself. */
    static void refuses(String what, Class<? extends RuntimeException> due, Call call) {
        checks++;
        Class<?> got = null;
        try {
            call.run();
        } catch (RuntimeException thrown) {
            got = thrown.getClass();
            thrownByFarm(what, thrown);
        }
        if (got != due) {
            tell(what + ": threw " + got + ", due is " + due);
        }
    }

    static void takes(String what, Call call) {
        checks++;
        try {
            call.run();
        } catch (RuntimeException thrown) {
            tell(what + ": threw " + thrown);
        }
    }

    /** A list's own IndexOutOfBoundsException is of the class that is due, so its class alone does not tell. */
    static void thrownByFarm(String what, Throwable thrown) {
        StackTraceElement[] calls = thrown.getStackTrace();
        String thrower = calls.length == 0 ? "nobody" : calls[0].getClassName();
        if (!thrower.startsWith("ThresholdRow")) {
            tell(what + ": thrown by " + thrower);
        }
    }

    static void index(String what, Call call) {
        refuses(what, IndexOutOfBoundsException.class, call);
    }

    static void argument(String what, Call call) {
        refuses(what, IllegalArgumentException.class, call);
    }

    static void state(String what, Call call) {
        refuses(what, IllegalStateException.class, call);
    }

    static void unsupported(String what, Call call) {
        refuses(what, UnsupportedOperationException.class, call);
    }

    static void tell(String what) {
        wrong++;
        System.out.println(what);
    }

    static void finish(String test) {
        System.out.println(test + ": " + checks + " checks, " + wrong + " wrong");
        if (wrong != 0) {
            System.exit(1);
        }
    }
}
