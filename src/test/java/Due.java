/** What the tests share: compares answers with those that are due, and tells the wrong ones. */
final class Due {
    interface Deed {
        void run();
    }

    private static int wrong = 0;
    private static int asked = 0;

    private Due() {
    }

    static void same(String call, long got, long want) {
        asked++;
        if (got != want) {
            tell(call + " answered " + got + ", due is " + want);
        }
    }

    static void sameDouble(String call, double got, double want) {
        asked++;
        if (Double.compare(got, want) != 0) {
            tell(call + " answered " + got + ", due is " + want);
        }
    }

    static void sameText(String what, String got, String want) {
        asked++;
        if (!got.equals(want)) {
            tell(what + " is " + got + ", due is " + want);
        }
    }

    /** The call is not refused; what it answers is not looked at here. */
    static void taken(String call, Deed deed) {
        asked++;
        try {
            deed.run();
        } catch (RuntimeException e) {
            tell(call + " threw " + e.getClass().getName() + ", due is an answer");
        }
    }

    static void range(String call, Deed deed) {
        refused(call, IllegalArgumentException.class, deed);
    }

    static void unknown(String call, Deed deed) {
        refused(call, IndexOutOfBoundsException.class, deed);
    }

    static void full(String call, Deed deed) {
        refused(call, IllegalStateException.class, deed);
    }

    private static void refused(String call, Class<?> kind, Deed deed) {
        asked++;
        try {
            deed.run();
            tell(call + " threw nothing, due is " + kind.getName());
        } catch (RuntimeException e) {
            if (e.getClass() != kind) {
                tell(call + " threw " + e.getClass().getName() + ", due is " + kind.getName());
            } else if (!thrownByProgram(e)) {
                tell(call + " let the machine or its library throw " + kind.getName());
            }
        }
    }

    private static boolean thrownByProgram(RuntimeException e) {
        StackTraceElement[] trace = e.getStackTrace();
        return trace.length > 0 && trace[0].getClassName().startsWith("Vortexpin");
    }

    private static void tell(String line) {
        wrong++;
        System.out.println(line);
    }

    /** Ends a test: with exit code 1 if an answer was wrong, or none was asked for. */
    static void close() {
        System.out.println(asked + " answers, " + wrong + " wrong");
        if (wrong > 0 || asked == 0) {
            System.exit(1);
        }
    }
}
