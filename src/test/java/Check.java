/** Compares answers with those that are due, prints every other one, and ends a test. */
final class Check {
    interface Call {
        Object answer();
    }

    private static int wrong = 0;

    private Check() {
    }

    /** What a call answers, or "throws." and the name of what it throws. */
    static String heard(Call call) {
        try {
            return String.valueOf(call.answer());
        } catch (RuntimeException e) {
            return "throws." + e.getClass().getSimpleName();
        }
    }

    static void due(String what, Object want, Call call) {
        String got = heard(call);
        if (!got.equals(String.valueOf(want))) {
            wrong++;
            System.out.println(what + " answered " + got + ", due is " + want);
        }
    }

    static void argument(String what, Call call) {
        due(what, "throws.IllegalArgumentException", call);
    }

    static void state(String what, Call call) {
        due(what, "throws.IllegalStateException", call);
    }

    static void end() {
        if (wrong != 0) {
            System.out.println(wrong + " answers are not as due");
            System.exit(1);
        }
    }
}
