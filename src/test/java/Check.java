/** Compares answers with what is due, and ends a test with exit code 1 if one was wrong. */
final class Check {
    /** A call of the face whose answer, or whose exception, is looked at. */
    interface Call {
        long answer();
    }

    private static final int MOST_PRINTED = 20;
    private static int wrong = 0;
    private static int done = 0;

    private Check() {
    }

    static void due(String what, long got, long want) {
        done++;
        if (got != want) {
            tell(what + " answered " + got + ", due is " + want);
        }
    }

    static void bytesDue(String what, byte[] got, byte[] want) {
        done++;
        int place = java.util.Arrays.mismatch(got, want);
        if (place >= 0) {
            tell(what + ": " + got.length + " bytes, due are " + want.length + ", the first other one is " + place);
        }
    }

    /** The exception has to be of this very class: a subclass would come from a fault, not from a throw. */
    static void throwsDue(String what, Class<? extends RuntimeException> want, Call call) {
        done++;
        try {
            long got = call.answer();
            tell(what + " answered " + got + ", due is throws." + want.getSimpleName());
        } catch (RuntimeException e) {
            if (e.getClass() != want) {
                tell(what + " throws " + e + ", due is throws." + want.getSimpleName());
            }
        }
    }

    static void isTrue(String what, boolean got) {
        due(what, got ? 1 : 0, 1);
    }

    private static void tell(String text) {
        wrong++;
        if (wrong <= MOST_PRINTED) {
            System.out.println(text);
        }
    }

    static void finish() {
        System.out.println(done + " answers looked at, " + wrong + " are not as due");
        if (wrong != 0 || done == 0) {
            System.exit(1);
        }
    }
}
