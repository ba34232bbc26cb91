/** Compares answers with those that are due, prints every other one, and ends a test. */
final class Check {
    interface Call {
        Object answer();
    }

    private static int wrong = 0;

    private Check() {
    }

    /** What a call answers, or "throws." and the name of what it throws. */
    static String heard(Call call) {
        try {
            return String.valueOf(call.answer());
        } catch (RuntimeException e) {
            return "throws." + e.getClass().getSimpleName();
        }
    }

    static void due(String what, Object want, Call call) {
        String got = heard(call);
        if (!got.equals(String.valueOf(want))) {
            wrong++;
            System.out.println(what + " answered " + got + ", due is " + want);
        }
    }

    static void argument(String what, Call call) {
        due(what, "throws.IllegalArgumentException", call);
    }

    static void state(String what, Call call) {
        due(what, "throws.IllegalStateException", call);
    }

    /** The zones' values, from zone 0 on. */
    static void values(String what, ZoneThreads x, int... row) {
        for (int zone = 0; zone < row.length; zone++) {
            int z = zone;
            due(what + ": at(" + z + ")", row[z], () -> x.at(z));
        }
    }

    /** The zones' colours, from zone 0 on. */
    static void colours(String what, ZoneThreads x, int... row) {
        for (int zone = 0; zone < row.length; zone++) {
            int z = zone;
            due(what + ": colour(" + z + ")", row[z], () -> x.colour(z));
        }
    }

    /** A line of the book: worker, zone, hour, whether it failed. */
    static void line(String what, ZoneThreads x, int k, int... columns) {
        for (int column = 0; column < 4; column++) {
            int c = column;
            due(what + ": book(" + k + ", " + c + ")", columns[c], () -> x.book(k, c));
        }
    }

    static void end() {
        if (wrong != 0) {
            System.out.println(wrong + " answers are not as due");
            System.exit(1);
        }
    }
}
