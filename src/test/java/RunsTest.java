/** Promises 4 to 6 and 11 to 13: failures, stops, runs, their book, who did what, what is foretold. */
public final class RunsTest {
    public static void main(String[] args) {
        failsTellsWhetherItDid();
        failsRefuses();
        failsUpTo200();
        stopsTellsTheHourBefore();
        stopsRefuses();
        hoursChangeValues();
        quotientsAreRoundedTo0();
        sharesAreSummedFirst();
        valuesAreKeptWithin();
        takersAreDrawn();
        failedZonesAreDoneAgain();
        goneWorkersStayGone();
        hoursAreUndone();
        runsStop();
        runRefuses();
        bookRefuses();
        bookOfALongRun();
        didCounts();
        foretoldIsWhatARunMakes();
        foretoldRefuses();
        Check.end();
    }

    private static void failsTellsWhetherItDid() {
        ZoneThreads x = new ZoneThreads(3);
        Check.due("fails: off, never on", false, () -> x.fails(15, 2, 999, false));
        Check.due("fails: on", false, () -> x.fails(15, 2, 999, true));
        Check.due("fails: on again", true, () -> x.fails(15, 2, 999, true));
        Check.due("fails: another worker", false, () -> x.fails(14, 2, 999, false));
        Check.due("fails: another zone", false, () -> x.fails(15, 1, 999, false));
        Check.due("fails: another hour", false, () -> x.fails(15, 2, 998, false));
        Check.due("fails: off", true, () -> x.fails(15, 2, 999, false));
        Check.due("fails: off again", false, () -> x.fails(15, 2, 999, false));
        Check.due("fails: the least", false, () -> x.fails(0, 0, 0, true));
        Check.due("fails: the least, told", true, () -> x.fails(0, 0, 0, false));
    }

    private static void failsRefuses() {
        ZoneThreads x = new ZoneThreads(3);
        x.fails(0, 1, 0, true);
        for (boolean on : new boolean[] {true, false}) {
            Check.argument("fails(-1, 0, 0)", () -> x.fails(-1, 0, 0, on));
            Check.argument("fails(16, 0, 0)", () -> x.fails(16, 0, 0, on));
            Check.argument("fails(0, -1, 0)", () -> x.fails(0, -1, 0, on));
            Check.argument("fails(0, 3, 0)", () -> x.fails(0, 3, 0, on));
            Check.argument("fails(0, 0, -1)", () -> x.fails(0, 0, -1, on));
            Check.argument("fails(0, 0, 1000)", () -> x.fails(0, 0, 1000, on));
            // Numbers that a key of the three would mistake for the failure that is told.
            Check.argument("fails(16, 0, 0) for (0, 1, 0)", () -> x.fails(16, 0, 0, on));
        }
        Check.due("fails after refused ones", true, () -> x.fails(0, 1, 0, true));
        Check.due("no failure after refused ones", false, () -> x.fails(0, 0, 0, false));
    }

    private static void failsUpTo200() {
        ZoneThreads x = new ZoneThreads(24);
        for (int n = 0; n < 200; n++) {
            int worker = n * 7 % 16;
            int hour = 999 - n;
            Check.due("fails number " + n, false, () -> x.fails(worker, 5, hour, true));
        }
        Check.state("the 201st", () -> x.fails(0, 0, 0, true));
        Check.argument("the 201st out of bounds", () -> x.fails(0, 24, 0, true));
        Check.due("the 201st was not told", false, () -> x.fails(0, 0, 0, false));
        Check.due("one of the 200 again", true, () -> x.fails(0, 5, 999, true));
        Check.due("one of the 200 off", true, () -> x.fails(7, 5, 998, false));
        Check.due("room for one", false, () -> x.fails(0, 0, 0, true));
        Check.state("no more room", () -> x.fails(7, 5, 998, true));
        for (int n = 2; n < 200; n++) {
            int worker = n * 7 % 16;
            int hour = 999 - n;
            Check.due("fails number " + n + " stands", true, () -> x.fails(worker, 5, hour, false));
        }
        Check.due("the last that was told", true, () -> x.fails(0, 0, 0, false));
    }

    private static void stopsTellsTheHourBefore() {
        ZoneThreads x = new ZoneThreads(1);
        Check.due("stops: none before", -1, () -> x.stops(999));
        Check.due("stops: 999 before", 999, () -> x.stops(0));
        Check.due("stops: 0 before", 0, () -> x.stops(-1));
        Check.due("stops: none again", -1, () -> x.stops(-1));
    }

    private static void stopsRefuses() {
        ZoneThreads x = new ZoneThreads(1);
        x.stops(3);
        Check.argument("stops(-2)", () -> x.stops(-2));
        Check.argument("stops(1000)", () -> x.stops(1000));
        Check.argument("stops(MIN)", () -> x.stops(Integer.MIN_VALUE));
        Check.due("stops after refused ones", 3, () -> x.stops(3));
    }

    private static ZoneThreads pair(int first, int second, int share) {
        ZoneThreads x = new ZoneThreads(2);
        x.value(0, first);
        x.value(1, second);
        x.wall(0, 1, share);
        return x;
    }

    private static void values(String what, ZoneThreads x, int... row) {
        for (int zone = 0; zone < row.length; zone++) {
            int z = zone;
            Check.due(what + ": at(" + z + ")", row[z], () -> x.at(z));
        }
    }

    private static void hoursChangeValues() {
        ZoneThreads x = pair(1000, 0, 100);
        Check.due("one hour", 1, () -> x.run(1, 77, 1));
        values("one hour", x, 900, 90);
        Check.due("two hours", 2, () -> x.run(16, -3, 2));
        // 900 - 81 = 819 and 90 + 72 = 162; then 819 - 65 = 754 and 162 + 59 = 221
        values("two hours more", x, 754, 221);

        // Zones 0 and 2 have colour 0, so zone 1 is done last and sees both of them changed.
        ZoneThreads y = new ZoneThreads(3);
        y.value(1, 1000);
        y.wall(0, 1, 100);
        y.wall(1, 2, 100);
        y.run(2, 5, 1);
        values("stages by colour", y, 100, 820, 100);
    }

    private static void quotientsAreRoundedTo0() {
        ZoneThreads x = pair(0, 15, 100);
        x.run(1, 0, 1);
        values("rounded to 0", x, 1, 14);
        ZoneThreads y = pair(0, -19, 100);
        y.run(1, 0, 1);
        values("rounded to 0 from below", y, -1, -18);
    }

    private static void sharesAreSummedFirst() {
        ZoneThreads x = new ZoneThreads(3);
        x.value(1, 100);
        x.value(2, 100);
        x.wall(0, 1, 5);
        x.wall(0, 2, 5);
        x.run(1, 0, 1);
        values("summed before the quotient", x, 1, 100, 100);
    }

    private static ZoneThreads star(int middle, int others) {
        ZoneThreads x = new ZoneThreads(24);
        x.value(0, middle);
        for (int zone = 1; zone < 24; zone++) {
            x.value(zone, others);
            x.wall(0, zone, 100);
        }
        return x;
    }

    private static void valuesAreKeptWithin() {
        ZoneThreads up = star(-1000000, 1000000);
        up.run(3, 9, 1);
        values("kept below", up, 1000000, 1000000);
        ZoneThreads down = star(1000000, -1000000);
        Check.due("kept above, foretold", -1000000, () -> down.foretold(0, 1));
        down.run(3, 9, 1);
        values("kept above", down, -1000000, -1000000);
    }

    private static void line(String what, ZoneThreads x, int k, int... columns) {
        for (int column = 0; column < 4; column++) {
            int c = column;
            Check.due(what + ": book(" + k + ", " + c + ")", columns[c], () -> x.book(k, c));
        }
    }

    private static void takersAreDrawn() {
        // H from seed 1: 1103527590, 2524885223, 662824084; their upper halves 16838, 38526, 10113
        ZoneThreads x = new ZoneThreads(3);
        Check.due("drawn: run", 1, () -> x.run(3, 1, 1));
        Check.due("drawn: lines", 3, () -> x.book(-1, 0));
        line("drawn", x, 0, 2, 0, 0, 0);
        line("drawn", x, 1, 0, 1, 0, 0);
        line("drawn", x, 2, 0, 2, 0, 0);
        Check.argument("drawn: no fourth line", () -> x.book(3, 0));
        Check.due("drawn: run of 7", 1, () -> x.run(7, 1, 1));
        line("drawn of 7", x, 0, 16838 % 7, 0, 0, 0);
        line("drawn of 7", x, 1, 38526 % 7, 1, 0, 0);
        line("drawn of 7", x, 2, 10113 % 7, 2, 0, 0);
        ZoneThreads y = new ZoneThreads(3);
        y.wall(0, 1, 1);
        y.run(1, 0, 2);
        int[] order = {0, 2, 1, 0, 2, 1};
        for (int k = 0; k < 6; k++) {
            line("colour by colour", y, k, 0, order[k], k / 3, 0);
        }
    }

    private static void failedZonesAreDoneAgain() {
        ZoneThreads x = new ZoneThreads(3);
        x.fails(2, 0, 0, true);
        Check.due("again: run", 1, () -> x.run(3, 1, 1));
        Check.due("again: lines", 4, () -> x.book(-1, 3));
        line("again", x, 0, 2, 0, 0, 1);
        line("again", x, 1, 0, 0, 0, 0);
        line("again", x, 2, 1, 1, 0, 0);
        Check.due("again: did(2)", -1, () -> x.did(2));
        Check.due("again: who is left", 3, () -> x.did(0) + x.did(1));
        // Of the two left behind worker 0, place 0 is worker 1.
        x.fails(2, 0, 0, false);
        x.fails(0, 1, 0, true);
        Check.due("place: run", 1, () -> x.run(3, 1, 1));
        line("place", x, 0, 2, 0, 0, 0);
        line("place", x, 1, 0, 1, 0, 1);
        line("place", x, 2, 10113 % 2 + 1, 1, 0, 0);
        x.fails(0, 1, 0, false);
        x.run(3, 1, 1);
        Check.due("not told any more: lines", 3, () -> x.book(-1, 0));
    }

    private static void goneWorkersStayGone() {
        ZoneThreads x = new ZoneThreads(4);
        for (int hour = 0; hour < 3; hour++) {
            for (int zone = 0; zone < 4; zone++) {
                x.fails(0, zone, hour, true);
                x.fails(1, zone, hour, true);
            }
        }
        Check.due("gone: run", 3, () -> x.run(3, 4, 3));
        Check.due("gone: lines", 14, () -> x.book(-1, 0));
        Check.due("gone: did(0)", -1, () -> x.did(0));
        Check.due("gone: did(1)", -1, () -> x.did(1));
        Check.due("gone: did(2)", 12, () -> x.did(2));
        int takings = x.book(-1, 0);
        for (int k = 0; k < takings; k++) {
            int worker = x.book(k, 0);
            boolean failed = x.book(k, 3) == 1;
            for (int later = k + 1; failed && later < takings; later++) {
                int l = later;
                Check.due("gone: line " + l + " by another", true, () -> x.book(l, 0) != worker);
            }
        }
        ZoneThreads y = new ZoneThreads(2);
        y.fails(0, 1, 1, true);
        Check.due("back in the next run: first", 1, () -> y.run(1, 0, 5));
        y.fails(0, 1, 1, false);
        Check.due("back in the next run: second", 5, () -> y.run(1, 0, 5));
        Check.due("back in the next run: did", 10, () -> y.did(0));
    }

    private static void hoursAreUndone() {
        ZoneThreads x = pair(1000, 0, 100);
        x.fails(0, 1, 1, true);
        Check.due("undone: run", 1, () -> x.run(1, 8, 50));
        values("undone", x, 900, 90);
        Check.due("undone: lines", 4, () -> x.book(-1, 0));
        line("undone", x, 2, 0, 0, 1, 0);
        line("undone", x, 3, 0, 1, 1, 1);
        Check.due("undone: did", -1, () -> x.did(0));

        ZoneThreads y = new ZoneThreads(2);
        y.value(0, 5);
        for (int worker = 0; worker < 16; worker++) {
            y.fails(worker, 0, 0, true);
        }
        Check.due("all 16 gone: run", 0, () -> y.run(16, 123456, 50));
        Check.due("all 16 gone: lines", 16, () -> y.book(-1, 0));
        values("all 16 gone", y, 5, 0);
        Check.due("all gone in the stop's hour", 0, () -> y.stops(0) == -1 ? y.run(16, 1, 2) : -9);
    }

    private static void runsStop() {
        ZoneThreads x = pair(1000, 0, 100);
        x.stops(0);
        Check.due("stops behind 0", 1, () -> x.run(2, 3, 50));
        values("stops behind 0", x, 900, 90);
        x.stops(4);
        Check.due("stops behind 4 of 5", 5, () -> x.run(2, 3, 5));
        Check.due("stops behind 4 of 6", 5, () -> x.run(2, 3, 6));
        Check.due("stops behind 4 of 4", 4, () -> x.run(2, 3, 4));
        x.stops(49);
        Check.due("stops behind 49", 50, () -> x.run(2, 3, 50));
        x.stops(50);
        Check.due("stops behind 50", 50, () -> x.run(2, 3, 50));
        x.stops(-1);
        Check.due("stops behind none", 50, () -> x.run(2, 3, 50));
    }

    private static void runRefuses() {
        ZoneThreads x = pair(1000, 0, 100);
        x.run(3, 1, 1);
        Check.argument("run(0, 1, 1)", () -> x.run(0, 1, 1));
        Check.argument("run(17, 1, 1)", () -> x.run(17, 1, 1));
        Check.argument("run(-1, 1, 1)", () -> x.run(-1, 1, 1));
        Check.argument("run(1, 1, 0)", () -> x.run(1, 1, 0));
        Check.argument("run(1, 1, 51)", () -> x.run(1, 1, 51));
        Check.argument("run(1, 1, -1)", () -> x.run(1, 1, -1));
        values("after refused runs", x, 900, 90);
        Check.due("after refused runs: lines", 2, () -> x.book(-1, 0));
        line("after refused runs", x, 0, 2, 0, 0, 0);
        Check.due("after refused runs: did(0)", 1, () -> x.did(0));
        Check.due("after refused runs: did(1)", 0, () -> x.did(1));
        Check.due("after refused runs: did(2)", 1, () -> x.did(2));
        Check.due("run with the greatest seed", 1, () -> x.run(16, Integer.MAX_VALUE, 1));
        Check.due("run with the least seed", 50, () -> x.run(16, Integer.MIN_VALUE, 50));
    }

    private static void bookRefuses() {
        ZoneThreads x = new ZoneThreads(2);
        x.run(1, 0, 1);
        Check.argument("book(-1, -1)", () -> x.book(-1, -1));
        Check.argument("book(-1, 4)", () -> x.book(-1, 4));
        Check.argument("book(0, -1)", () -> x.book(0, -1));
        Check.argument("book(0, 4)", () -> x.book(0, 4));
        Check.argument("book(-2, 0)", () -> x.book(-2, 0));
        Check.argument("book(2, 0)", () -> x.book(2, 0));
        Check.argument("book(MAX, 0)", () -> x.book(Integer.MAX_VALUE, 0));
        Check.argument("book(1999, 0)", () -> x.book(1999, 0));
        for (int what = 0; what < 4; what++) {
            int w = what;
            Check.due("book(-1, " + w + ")", 2, () -> x.book(-1, w));
        }
    }

    private static void bookOfALongRun() {
        ZoneThreads x = new ZoneThreads(24);
        for (int worker = 0; worker < 15; worker++) {
            for (int hour = 0; hour < 10; hour++) {
                x.fails(worker, 23, hour, true);
            }
        }
        Check.due("long: run", 50, () -> x.run(16, 31, 50));
        int failed = 0;
        int done = 0;
        for (int k = 0; k < x.book(-1, 0); k++) {
            failed += x.book(k, 3);
            done += 1 - x.book(k, 3);
        }
        int failing = failed;
        int doing = done;
        Check.due("long: zones done", 1200, () -> doing);
        Check.due("long: lines", 1200 + failing, () -> x.book(-1, 0));
        line("long", x, 1199 + failing, x.book(1199 + failing, 0), 23, 49, 0);
        Check.argument("long: no line more", () -> x.book(1200 + failing, 0));
        x.run(1, 0, 1);
        Check.due("the latest run's lines alone", 24, () -> x.book(-1, 0));
        Check.argument("no line of the run before", () -> x.book(24, 0));
    }

    private static void didCounts() {
        ZoneThreads x = new ZoneThreads(3);
        x.run(2, 1, 7);
        Check.due("did: both together", 21, () -> x.did(0) + x.did(1));
        int first = 0;
        for (int k = 0; k < 21; k++) {
            first += x.book(k, 0) == 0 ? 1 : 0;
        }
        int due = first;
        Check.due("did(0) as in the book", due, () -> x.did(0));
        Check.due("did(2): none of the workers", -1, () -> x.did(2));
        Check.due("did(15): none of the workers", -1, () -> x.did(15));
        Check.argument("did(16)", () -> x.did(16));
        Check.argument("did(-1)", () -> x.did(-1));
        x.run(1, 1, 1);
        Check.due("did: the latest run alone", 3, () -> x.did(0));
        Check.due("did: not of the run before", -1, () -> x.did(1));
        x.run(16, 1, 1);
        Check.due("did: present, but drawn for nothing", 0, () -> x.did(0));
    }

    private static void foretoldIsWhatARunMakes() {
        ZoneThreads x = pair(1000, 0, 100);
        x.fails(0, 0, 0, true);
        x.stops(0);
        Check.due("foretold(0, 0)", 1000, () -> x.foretold(0, 0));
        Check.due("foretold(0, 1)", 900, () -> x.foretold(0, 1));
        Check.due("foretold(1, 1)", 90, () -> x.foretold(1, 1));
        Check.due("foretold(0, 3)", 754, () -> x.foretold(0, 3));
        Check.due("foretold(1, 3)", 221, () -> x.foretold(1, 3));
        values("foretold changes nothing", x, 1000, 0);
        Check.due("foretold: no lines", 0, () -> x.book(-1, 0));
        Check.due("foretold: nobody did", -1, () -> x.did(0));
        x.fails(0, 0, 0, false);
        x.stops(-1);
        int later = x.foretold(0, 50);
        int latest = x.foretold(1, 50);
        x.run(5, 5, 50);
        values("as foretold", x, later, latest);
    }

    private static void foretoldRefuses() {
        ZoneThreads x = pair(1000, 0, 100);
        Check.argument("foretold(-1, 1)", () -> x.foretold(-1, 1));
        Check.argument("foretold(2, 1)", () -> x.foretold(2, 1));
        Check.argument("foretold(0, -1)", () -> x.foretold(0, -1));
        Check.argument("foretold(0, 51)", () -> x.foretold(0, 51));
        values("after refused ones", x, 1000, 0);
    }
}
