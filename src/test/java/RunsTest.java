/** Promises 4 to 6 and 11 to 13 in ordinary use: failures, stops, runs, their book, who did what, what is foretold. */
public final class RunsTest {
    public static void main(String[] args) {
        failsTellsWhetherItDid();
        stopsTellsTheHourBefore();
        hoursChangeValues();
        takersAreDrawn();
        failedZonesAreDoneAgain();
        goneWorkersStayGone();
        bookOfALongRun();
        didCounts();
        foretoldIsWhatARunMakes();
        Check.end();
    }

    private static void failsTellsWhetherItDid() {
        ZoneThreads x = new ZoneThreads(3);
        Check.due("fails: off, never on", false, () -> x.fails(15, 2, 999, false));
        Check.due("fails: on", false, () -> x.fails(15, 2, 999, true));
        Check.due("fails: on again", true, () -> x.fails(15, 2, 999, true));
        Check.due("fails: another worker", false, () -> x.fails(14, 2, 999, false));
        Check.due("fails: another zone", false, () -> x.fails(15, 1, 999, false));
        Check.due("fails: another hour", false, () -> x.fails(15, 2, 998, false));
        Check.due("fails: off", true, () -> x.fails(15, 2, 999, false));
        Check.due("fails: off again", false, () -> x.fails(15, 2, 999, false));
        Check.due("fails: the least", false, () -> x.fails(0, 0, 0, true));
        Check.due("fails: the least, told", true, () -> x.fails(0, 0, 0, false));
    }

    private static void stopsTellsTheHourBefore() {
        ZoneThreads x = new ZoneThreads(1);
        Check.due("stops: none before", -1, () -> x.stops(999));
        Check.due("stops: 999 before", 999, () -> x.stops(0));
        Check.due("stops: 0 before", 0, () -> x.stops(-1));
        Check.due("stops: none again", -1, () -> x.stops(-1));
    }

    private static void hoursChangeValues() {
        ZoneThreads x = Given.pair(1000, 0, 100);
        Check.due("one hour", 1, () -> x.run(1, 77, 1));
        Check.values("one hour", x, 900, 90);
        Check.due("two hours", 2, () -> x.run(16, -3, 2));
        // 900 - 81 = 819 and 90 + 72 = 162; then 819 - 65 = 754 and 162 + 59 = 221
        Check.values("two hours more", x, 754, 221);

        // Zones 0 and 2 have colour 0, so zone 1 is done last and sees both of them changed.
        ZoneThreads y = new ZoneThreads(3);
        y.value(1, 1000);
        y.wall(0, 1, 100);
        y.wall(1, 2, 100);
        y.run(2, 5, 1);
        Check.values("stages by colour", y, 100, 820, 100);
    }

    private static void takersAreDrawn() {
        // H from seed 1: 1103527590, 2524885223, 662824084; their upper halves 16838, 38526, 10113
        ZoneThreads x = new ZoneThreads(3);
        Check.due("drawn: run", 1, () -> x.run(3, 1, 1));
        Check.due("drawn: lines", 3, () -> x.book(-1, 0));
        Check.line("drawn", x, 0, 2, 0, 0, 0);
        Check.line("drawn", x, 1, 0, 1, 0, 0);
        Check.line("drawn", x, 2, 0, 2, 0, 0);
        Check.argument("drawn: no fourth line", () -> x.book(3, 0));
        Check.due("drawn: run of 7", 1, () -> x.run(7, 1, 1));
        Check.line("drawn of 7", x, 0, 16838 % 7, 0, 0, 0);
        Check.line("drawn of 7", x, 1, 38526 % 7, 1, 0, 0);
        Check.line("drawn of 7", x, 2, 10113 % 7, 2, 0, 0);
        ZoneThreads y = new ZoneThreads(3);
        y.wall(0, 1, 1);
        y.run(1, 0, 2);
        int[] order = {0, 2, 1, 0, 2, 1};
        for (int k = 0; k < 6; k++) {
            Check.line("colour by colour", y, k, 0, order[k], k / 3, 0);
        }
    }

    private static void failedZonesAreDoneAgain() {
        ZoneThreads x = new ZoneThreads(3);
        x.fails(2, 0, 0, true);
        Check.due("again: run", 1, () -> x.run(3, 1, 1));
        Check.due("again: lines", 4, () -> x.book(-1, 3));
        Check.line("again", x, 0, 2, 0, 0, 1);
        Check.line("again", x, 1, 0, 0, 0, 0);
        Check.line("again", x, 2, 1, 1, 0, 0);
        Check.due("again: did(2)", -1, () -> x.did(2));
        Check.due("again: who is left", 3, () -> x.did(0) + x.did(1));
        // Of the two left behind worker 0, place 0 is worker 1.
        x.fails(2, 0, 0, false);
        x.fails(0, 1, 0, true);
        Check.due("place: run", 1, () -> x.run(3, 1, 1));
        Check.line("place", x, 0, 2, 0, 0, 0);
        Check.line("place", x, 1, 0, 1, 0, 1);
        Check.line("place", x, 2, 10113 % 2 + 1, 1, 0, 0);
        x.fails(0, 1, 0, false);
        x.run(3, 1, 1);
        Check.due("not told any more: lines", 3, () -> x.book(-1, 0));
    }

    private static void goneWorkersStayGone() {
        ZoneThreads x = new ZoneThreads(4);
        for (int hour = 0; hour < 3; hour++) {
            for (int zone = 0; zone < 4; zone++) {
                x.fails(0, zone, hour, true);
                x.fails(1, zone, hour, true);
            }
        }
        Check.due("gone: run", 3, () -> x.run(3, 4, 3));
        Check.due("gone: lines", 14, () -> x.book(-1, 0));
        Check.due("gone: did(0)", -1, () -> x.did(0));
        Check.due("gone: did(1)", -1, () -> x.did(1));
        Check.due("gone: did(2)", 12, () -> x.did(2));
        int takings = x.book(-1, 0);
        for (int k = 0; k < takings; k++) {
            int worker = x.book(k, 0);
            boolean failed = x.book(k, 3) == 1;
            for (int later = k + 1; failed && later < takings; later++) {
                int l = later;
                Check.due("gone: line " + l + " by another", true, () -> x.book(l, 0) != worker);
            }
        }
        ZoneThreads y = new ZoneThreads(2);
        y.fails(0, 1, 1, true);
        Check.due("back in the next run: first", 1, () -> y.run(1, 0, 5));
        y.fails(0, 1, 1, false);
        Check.due("back in the next run: second", 5, () -> y.run(1, 0, 5));
        Check.due("back in the next run: did", 10, () -> y.did(0));
    }

    private static ZoneThreads longRun() {
        ZoneThreads x = new ZoneThreads(24);
        for (int told = 0; told < 150; told++) {
            x.fails(told % 15, 23, told / 15, true);
        }
        x.run(16, 31, 50);
        return x;
    }

    private static void bookOfALongRun() {
        int lines = longRun().book(-1, 0);
        int[] failed = new int[1];
        // An object is good for 512 calls, so each hears of some lines only.
        for (int from = 0; from < lines; from += 300) {
            ZoneThreads x = longRun();
            for (int k = from; k < Math.min(lines, from + 300); k++) {
                failed[0] += x.book(k, 3);
            }
        }
        Check.due("long: zones done", 1200, () -> lines - failed[0]);
        ZoneThreads x = longRun();
        int gone = 0;
        for (int worker = 0; worker < 16; worker++) {
            gone += x.did(worker) == -1 ? 1 : 0;
        }
        Check.due("long: as many failed as are gone", gone, () -> failed[0]);
        Check.line("long", x, lines - 1, x.book(lines - 1, 0), 23, 49, 0);
    }

    private static void didCounts() {
        ZoneThreads x = new ZoneThreads(3);
        x.run(2, 1, 7);
        Check.due("did: both together", 21, () -> x.did(0) + x.did(1));
        int first = 0;
        for (int k = 0; k < 21; k++) {
            first += x.book(k, 0) == 0 ? 1 : 0;
        }
        int due = first;
        Check.due("did(0) as in the book", due, () -> x.did(0));
        Check.due("did(2): none of the workers", -1, () -> x.did(2));
        Check.due("did(15): none of the workers", -1, () -> x.did(15));
        Check.argument("did(16)", () -> x.did(16));
        Check.argument("did(-1)", () -> x.did(-1));
        x.run(1, 1, 1);
        Check.due("did: the latest run alone", 3, () -> x.did(0));
        Check.due("did: not of the run before", -1, () -> x.did(1));
        x.run(16, 1, 1);
        Check.due("did: present, but drawn for nothing", 0, () -> x.did(0));
    }

    private static void foretoldIsWhatARunMakes() {
        ZoneThreads x = Given.pair(1000, 0, 100);
        x.fails(0, 0, 0, true);
        x.stops(0);
        Check.due("foretold(0, 0)", 1000, () -> x.foretold(0, 0));
        Check.due("foretold(0, 1)", 900, () -> x.foretold(0, 1));
        Check.due("foretold(1, 1)", 90, () -> x.foretold(1, 1));
        Check.due("foretold(0, 3)", 754, () -> x.foretold(0, 3));
        Check.due("foretold(1, 3)", 221, () -> x.foretold(1, 3));
        Check.values("foretold changes nothing", x, 1000, 0);
        Check.due("foretold: no lines", 0, () -> x.book(-1, 0));
        Check.due("foretold: nobody did", -1, () -> x.did(0));
        x.fails(0, 0, 0, false);
        x.stops(-1);
        int later = x.foretold(0, 50);
        int latest = x.foretold(1, 50);
        x.run(5, 5, 50);
        Check.values("as foretold", x, later, latest);
    }
}
