/** What is answered where there is nothing yet, where there is as much as there may be, and one more. */
public final class EmptyAndFullTest {
    public static void main(String[] args) {
        zonesBelow1AndAbove24();
        newZonesHaveNothing();
        noRunYet();
        noFailureNorStopYet();
        noJobYet();
        noJobAnyMore();
        oneZoneAlone();
        failuresUpTo200();
        failuresAtTheirEnds();
        jobsUpTo100();
        jobsComeAndGoWhileFull();
        walls276();
        workersUpTo16();
        hoursUpTo50();
        linesAsManyAsThereCanBe();
        aLaterBookIsShorter();
        theLastOf512Calls();
        Check.end();
    }

    /** Promise 1: "Z zones (below 1 counts as 1, above 24 as 24)". */
    private static void zonesBelow1AndAbove24() {
        zoneCount(Integer.MIN_VALUE, 1);
        zoneCount(-1, 1);
        zoneCount(0, 1);
        zoneCount(1, 1);
        zoneCount(2, 2);
        zoneCount(23, 23);
        zoneCount(24, 24);
        zoneCount(25, 24);
        zoneCount(Integer.MAX_VALUE, 24);
    }

    private static void zoneCount(int asked, int count) {
        ZoneThreads x = new ZoneThreads(asked);
        Check.due(asked + " zones: at of the last", 0, () -> x.at(count - 1));
        Check.argument(asked + " zones: at behind the last", () -> x.at(count));
        Check.due(asked + " zones: run", 1, () -> x.run(1, 0, 1));
        Check.due(asked + " zones: each is done", count, () -> x.did(0));
    }

    /** Promise 1: "no walls"; Terms: a value is "0 at first", a share "0: none, at first". */
    private static void newZonesHaveNothing() {
        ZoneThreads x = new ZoneThreads(24);
        Check.due("NONE", -1, () -> ZoneThreads.NONE);
        Check.due("new: colours", 1, x::colours);
        Check.due("new: sum", 0, x::sum);
        for (int zone = 0; zone < 24; zone++) {
            int z = zone;
            Check.due("new: at(" + z + ")", 0, () -> x.at(z));
            Check.due("new: value(" + z + ", 0)", 0, () -> x.value(z, 0));
            Check.due("new: colour(" + z + ")", 0, () -> x.colour(z));
            Check.due("new: foretold(" + z + ", 50)", 0, () -> x.foretold(z, 50));
            for (int other = 0; other < z; other++) {
                int o = other;
                Check.due("new: wall(" + z + ", " + o + ", 0)", 0, () -> x.wall(z, o, 0));
            }
        }
    }

    /** Promise 1: "no run"; promises 11 and 12 where there is none. */
    private static void noRunYet() {
        ZoneThreads x = new ZoneThreads(24);
        for (int what = 0; what < 4; what++) {
            int w = what;
            Check.due("no run: book(NONE, " + w + ")", 0, () -> x.book(-1, w));
            Check.argument("no run: book(0, " + w + ")", () -> x.book(0, w));
        }
        Check.argument("no run: what -1", () -> x.book(-1, -1));
        Check.argument("no run: what 4", () -> x.book(-1, 4));
        for (int worker = 0; worker < 16; worker++) {
            int w = worker;
            Check.due("no run: did(" + w + ")", -1, () -> x.did(w));
        }
    }

    /** Promises 4 and 5: nothing is told at first. */
    private static void noFailureNorStopYet() {
        ZoneThreads x = new ZoneThreads(24);
        Check.due("no failure: the least, off", false, () -> x.fails(0, 0, 0, false));
        Check.due("no failure: the greatest, off", false, () -> x.fails(15, 23, 999, false));
        Check.due("no failure: the least, on", false, () -> x.fails(0, 0, 0, true));
        Check.due("no stop", -1, () -> x.stops(-1));
        Check.due("no stop behind any hour", 50, () -> new ZoneThreads(1).run(1, 0, 50));
    }

    /** Promise 1: "no jobs"; promise 15: "NONE if none waits"; promise 16: "there was no such job". */
    private static void noJobYet() {
        ZoneThreads x = new ZoneThreads(1);
        Check.argument("no job: age(0)", () -> x.age(0));
        Check.argument("no job: age(NONE)", () -> x.age(-1));
        Check.due("no job: take", -1, x::take);
        Check.due("no job: take again", -1, x::take);
        Check.argument("no job came by taking: age(0)", () -> x.age(0));
        Check.due("the first job", 0, () -> x.job(0));
        Check.due("takings of none age nobody", 0, () -> x.age(0));
        Check.argument("no second job: age(1)", () -> x.age(1));
    }

    /** Promise 15: "NONE if none waits"; promise 16: "NONE if it does not wait". */
    private static void noJobAnyMore() {
        ZoneThreads x = new ZoneThreads(1);
        x.job(100);
        Check.due("the only job", 0, x::take);
        Check.due("none any more", -1, x::take);
        Check.due("the taken one's age", -1, () -> x.age(0));
        Check.argument("never come", () -> x.age(1));
        Check.due("numbers go on", 1, () -> x.job(0));
        Check.due("the taken one's age still", -1, () -> x.age(0));
        Check.due("the new one's age", 0, () -> x.age(1));
        Check.due("the new one", 1, x::take);
    }

    /** Promises 6 to 10 and 13 with the fewest zones. */
    private static void oneZoneAlone() {
        ZoneThreads x = Given.values(-1000000);
        Check.due("alone: colours", 1, x::colours);
        Check.due("alone: colour", 0, () -> x.colour(0));
        Check.due("alone: sum", -1000000, x::sum);
        Check.due("alone: foretold", -1000000, () -> x.foretold(0, 50));
        Check.due("alone: run", 2, () -> x.run(1, 0, 2));
        Check.values("alone", x, -1000000);
        Check.line("alone", x, 0, 0, 0, 0, 0);
        Check.line("alone", x, 1, 0, 0, 1, 0);
        Check.due("alone: lines", 2, () -> x.book(-1, 0));
    }

    /** Promise 4: "illegal state: it would be the 201st". */
    private static void failuresUpTo200() {
        ZoneThreads x = new ZoneThreads(24);
        for (int n = 0; n < 200; n++) {
            int worker = n * 7 % 16;
            int hour = 999 - n;
            Check.due("fails number " + n, false, () -> x.fails(worker, 5, hour, true));
        }
        Check.state("the 201st", () -> x.fails(0, 0, 0, true));
        Check.state("the 201st again", () -> x.fails(0, 0, 0, true));
        Check.due("the 201st was not told", false, () -> x.fails(0, 0, 0, false));
        Check.due("told already, so not the 201st", true, () -> x.fails(0, 5, 999, true));
        Check.due("not told, off, so not the 201st", false, () -> x.fails(15, 23, 0, false));
        Check.state("still no room", () -> x.fails(15, 23, 0, true));
        Check.due("one of the 200 off", true, () -> x.fails(7, 5, 998, false));
        Check.due("one off again makes no second room", false, () -> x.fails(7, 5, 998, false));
        Check.due("room for one", false, () -> x.fails(0, 0, 0, true));
        Check.state("no more room", () -> x.fails(7, 5, 998, true));
        for (int n = 2; n < 200; n++) {
            int worker = n * 7 % 16;
            int hour = 999 - n;
            Check.due("fails number " + n + " stands", true, () -> x.fails(worker, 5, hour, false));
        }
        Check.due("the first stands", true, () -> x.fails(0, 5, 999, false));
        Check.due("the last that was told", true, () -> x.fails(0, 0, 0, false));
    }

    /** Promise 4: "A worker (0 .. 15) FAILS at a zone in an hour (0 .. 999)": the ends are told apart. */
    private static void failuresAtTheirEnds() {
        int[] workers = {0, 15};
        int[] zones = {0, 23};
        int[] hours = {0, 999};
        for (int told = 0; told < 8; told++) {
            ZoneThreads x = new ZoneThreads(24);
            x.fails(workers[told & 1], zones[told >> 1 & 1], hours[told >> 2], true);
            for (int asked = 0; asked < 8; asked++) {
                int a = asked;
                Check.due("corner " + told + " told, corner " + asked + " asked", told == asked,
                        () -> x.fails(workers[a & 1], zones[a >> 1 & 1], hours[a >> 2], false));
            }
        }
        // What follows the greatest of one number is the least of the next, not the same failure.
        ZoneThreads y = new ZoneThreads(24);
        y.fails(15, 0, 0, true);
        y.fails(15, 23, 0, true);
        Check.due("worker 0 at the next zone", false, () -> y.fails(0, 1, 0, false));
        Check.due("worker 0 at zone 0 in the next hour", false, () -> y.fails(0, 0, 1, false));
        Check.due("worker 15 at zone 0", true, () -> y.fails(15, 0, 0, false));
        Check.due("worker 15 at zone 23", true, () -> y.fails(15, 23, 0, false));
    }

    /** Promise 14: "illegal state: 100 wait". */
    private static void jobsUpTo100() {
        ZoneThreads x = new ZoneThreads(1);
        for (int n = 0; n < 100; n++) {
            int number = n;
            Check.due("job " + n, number, () -> x.job(number % 3));
        }
        Check.state("the 101st", () -> x.job(0));
        Check.state("the 101st of a great rank", () -> x.job(100));
        Check.argument("the 101st did not come", () -> x.age(100));
        Check.due("age of the 100th", 0, () -> x.age(99));
        Check.due("the greatest of 100", 2, x::take);
        Check.due("room for one", 100, () -> x.job(0));
        Check.state("no more room", () -> x.job(0));
        Check.due("age of the last", 0, () -> x.age(100));
        Check.due("age of the first", 1, () -> x.age(0));
        for (int n = 0; n < 100; n++) {
            Check.due("one of the 100 that wait", true, () -> x.take() >= 0);
        }
        Check.due("no 101st", -1, x::take);
    }

    /** Promise 14: it is those that wait, not all that came, that may be 100. */
    private static void jobsComeAndGoWhileFull() {
        ZoneThreads x = new ZoneThreads(1);
        for (int n = 0; n < 100; n++) {
            x.job(0);
        }
        for (int n = 0; n < 120; n++) {
            int number = n;
            Check.due("the oldest", number, x::take);
            Check.due("one more", 100 + number, () -> x.job(0));
        }
        Check.state("full", () -> x.job(0));
        // It came behind the 21st taking of 120.
        Check.due("age of the oldest", 99, () -> x.age(120));
        Check.due("age of the newest", 0, () -> x.age(219));
        Check.due("age of one taken", -1, () -> x.age(119));
        Check.argument("age of none", () -> x.age(220));
    }

    /** Terms: a wall between any two of 24 zones: each has a colour of its own. */
    private static void walls276() {
        ZoneThreads x = new ZoneThreads(24);
        for (int zone = 0; zone < 24; zone++) {
            for (int other = 0; other < zone; other++) {
                x.wall(zone, other, 100);
            }
        }
        Check.due("all walls: colours", 24, x::colours);
        for (int zone = 0; zone < 24; zone++) {
            int z = zone;
            Check.due("all walls: colour(" + z + ")", z, () -> x.colour(z));
        }
        x.value(0, 1000000);
        x.value(23, -1000000);
        // Zone 0 has 2300 * -1000000 - 100 * 1000000 to go down, far more than it may.
        Check.due("all walls: zone 0 foretold", -1000000, () -> x.foretold(0, 1));
        Check.due("all walls: run", 1, () -> x.run(16, 1, 1));
        Check.due("all walls: at(0)", -1000000, () -> x.at(0));
        for (int zone = 0; zone < 24; zone++) {
            int z = zone;
            Check.due("all walls: stage " + z, z, () -> x.book(z, 1));
        }
    }

    /** Promise 6: "W workers (1 .. 16)": the only one, and all 16. */
    private static void workersUpTo16() {
        ZoneThreads x = new ZoneThreads(24);
        x.run(1, 99, 2);
        Check.due("one worker did all", 48, () -> x.did(0));
        Check.due("no second worker", -1, () -> x.did(1));
        x.run(16, 99, 4);
        int[] due = new int[16];
        for (int half : Given.draws(99, 96)) {
            due[half % 16]++;
        }
        for (int worker = 0; worker < 16; worker++) {
            int w = worker;
            Check.due("16 workers: did(" + w + ")", due[w], () -> x.did(w));
        }
        Check.due("16 workers: the last did some", true, () -> x.did(15) > 0);
        x.run(15, 99, 1);
        Check.due("15 workers: did(14)", true, () -> x.did(14) >= 0);
        Check.due("15 workers: did(15)", -1, () -> x.did(15));
    }

    /** Promise 6: "hours (1 .. 50)"; promise 13: "so many hours (0 .. 50)". */
    private static void hoursUpTo50() {
        // So small a share that the 50th hour still changes both.
        ZoneThreads x = Given.pair(1000000, -1000000, 1);
        int[] row = {1000000, -1000000};
        for (int hour = 0; hour <= 50; hour++) {
            int h = hour;
            Check.due("foretold(0, " + h + ")", row[0], () -> x.foretold(0, h));
            Check.due("foretold(1, " + h + ")", row[1], () -> x.foretold(1, h));
            row[0] += (row[1] - row[0]) / 1000;
            row[1] += (row[0] - row[1]) / 1000;
        }
        int last = x.foretold(0, 50);
        int other = x.foretold(1, 50);
        Check.due("run of 50 hours", 50, () -> x.run(4, 4, 50));
        Check.values("run of 50 hours", x, last, other);
        Check.due("run of 50 hours: the last line's hour", 49, () -> x.book(99, 2));
        Check.argument("run of 50 hours: no hour 50", () -> x.book(100, 2));
        ZoneThreads y = Given.pair(1000, 0, 100);
        Check.due("run of 1 hour", 1, () -> y.run(4, 4, 1));
        Check.values("run of 1 hour", y, 900, 90);
    }

    /**
     * Terms: "the first 2000" lines: a run has no more than 24 zones in 50 hours and 16 failures,
     * the last of which is not done again, so 1215 are all that can be.
     */
    private static void linesAsManyAsThereCanBe() {
        ZoneThreads x = new ZoneThreads(24);
        for (int worker = 0; worker < 16; worker++) {
            x.fails(worker, 23, 49, true);
        }
        Check.due("1215 lines: run", 49, () -> x.run(16, 31, 50));
        Check.due("1215 lines: how many", 1215, () -> x.book(-1, 0));
        Check.due("1215 lines: zone of the last", 23, () -> x.book(1214, 1));
        Check.due("1215 lines: hour of the last", 49, () -> x.book(1214, 2));
        Check.due("1215 lines: the last failed", 1, () -> x.book(1214, 3));
        Check.due("1215 lines: the first that failed", 1, () -> x.book(1199, 3));
        Check.due("1215 lines: the last that did not", 0, () -> x.book(1198, 3));
        Check.argument("1215 lines: no line more", () -> x.book(1215, 0));
        Check.argument("1215 lines: no line 1999", () -> x.book(1999, 0));
        Check.argument("1215 lines: no line 2000", () -> x.book(2000, 0));
    }

    /** Promise 11: "Of the latest run's book": what stood behind its end is gone. */
    private static void aLaterBookIsShorter() {
        ZoneThreads x = new ZoneThreads(24);
        x.run(1, 0, 50);
        Check.due("longer book", 1200, () -> x.book(-1, 0));
        x.run(1, 0, 1);
        Check.due("shorter book", 24, () -> x.book(-1, 0));
        Check.due("shorter book: its last line", 23, () -> x.book(23, 1));
        Check.argument("shorter book: no line of the run before", () -> x.book(24, 1));
        x.fails(0, 0, 0, true);
        x.run(1, 0, 1);
        Check.due("the shortest book", 1, () -> x.book(-1, 0));
        Check.line("the shortest book", x, 0, 0, 0, 0, 1);
        Check.argument("the shortest book: no second line", () -> x.book(1, 0));
    }

    /** "An object is used for at most 512 calls": the last of them is answered, too. */
    private static void theLastOf512Calls() {
        ZoneThreads jobs = new ZoneThreads(1);
        for (int n = 0; n < 255; n++) {
            jobs.job(n % 101);
            jobs.take();
        }
        Check.due("call 511 of jobs", 255, () -> jobs.job(0));
        Check.due("call 512 of jobs", 255, jobs::take);
        ZoneThreads runs = Given.pair(1000, 0, 100);
        int made = 3;
        for (int n = made; n < 509; n++) {
            runs.run(16, n, 50);
        }
        Check.due("call 510 of runs", 50, () -> runs.run(2, 1, 50));
        Check.due("call 511 of runs", 100, () -> runs.book(-1, 0));
        int even = 0;
        for (int half : Given.draws(1, 100)) {
            even += 1 - half % 2;
        }
        int due = even;
        Check.due("call 512 of runs", due, () -> runs.did(0));
    }
}
