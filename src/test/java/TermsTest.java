/** The sentences of "Terms" that name a case at an edge, but for those of WrapAndKeepTest. */
public final class TermsTest {
    public static void main(String[] args) {
        wallsAreNeededForColours();
        lesserNumbersAloneCount();
        theLeastColourIsHad();
        coloursFollowTheWallsAtOnce();
        stagesGoByColour();
        zonesAreDoneOnce();
        theLeastZoneIsTaken();
        neighboursOfAFailureDoNotFail();
        theZoneIsAsItWas();
        goneForTheRestOfTheRun();
        goneFromTheFrontAndTheBack();
        allButOneGone();
        undoneAtTheFirstTaking();
        undoneAtTheLastTaking();
        undoneInALaterHour();
        undoneHoursDoNotStop();
        hoursOfOtherRunsDoNotFail();
        stopsBehindEachHour();
        stopsHoldForLaterRuns();
        theBookHasAllTakings();
        didOfGoneAndAbsent();
        foretoldWithoutFailuresAndStops();
        ranksAndAgesTogether();
        agesGoBeyondTheGreatestRank();
        theFirstThatCame();
        agesOfAllOthersGrow();
        newJobsHaveNoAge();
        Check.end();
    }

    /** "that no zone with a lesser number has to which it has a wall": a share of 0 is none. */
    private static void wallsAreNeededForColours() {
        ZoneThreads x = new ZoneThreads(3);
        x.wall(0, 1, 0);
        Check.due("share 0: colours", 1, x::colours);
        Check.colours("share 0", x, 0, 0, 0);
        x.wall(0, 1, 1);
        Check.due("share 1: colours", 2, x::colours);
        Check.colours("share 1", x, 0, 1, 0);
        x.wall(0, 1, 100);
        Check.colours("share 100", x, 0, 1, 0);
        x.wall(1, 0, 0);
        Check.due("share 0 again: colours", 1, x::colours);
        Check.colours("share 0 again", x, 0, 0, 0);
    }

    /** "no zone with a lesser number": zones with greater numbers do not matter. */
    private static void lesserNumbersAloneCount() {
        ZoneThreads first = new ZoneThreads(24);
        ZoneThreads last = new ZoneThreads(24);
        for (int zone = 0; zone < 23; zone++) {
            first.wall(0, zone + 1, 1);
            last.wall(zone, 23, 1);
        }
        Check.due("walls to the first: colours", 2, first::colours);
        Check.due("walls to the last: colours", 2, last::colours);
        for (int zone = 0; zone < 24; zone++) {
            int z = zone;
            Check.due("walls to the first: colour(" + z + ")", z == 0 ? 0 : 1, () -> first.colour(z));
            Check.due("walls to the last: colour(" + z + ")", z == 23 ? 1 : 0, () -> last.colour(z));
        }
    }

    /** "the least colour 0, 1, .. that no zone with a lesser number has": gaps are filled. */
    private static void theLeastColourIsHad() {
        ZoneThreads x = new ZoneThreads(6);
        x.wall(0, 1, 1);
        x.wall(0, 2, 1);
        x.wall(1, 2, 1);
        x.wall(3, 1, 1);
        x.wall(3, 2, 1);
        x.wall(4, 0, 1);
        x.wall(4, 2, 1);
        x.wall(5, 0, 1);
        x.wall(5, 1, 1);
        x.wall(5, 2, 1);
        Check.colours("gaps", x, 0, 1, 2, 0, 1, 3);
        Check.due("gaps: colours", 4, x::colours);
    }

    /** COLOURS are those of the walls that stand now. */
    private static void coloursFollowTheWallsAtOnce() {
        ZoneThreads x = new ZoneThreads(4);
        x.wall(0, 1, 1);
        x.wall(1, 2, 1);
        x.wall(2, 3, 1);
        Check.colours("a chain", x, 0, 1, 0, 1);
        x.wall(0, 1, 0);
        // One wall less at the head, and every zone behind it has another colour.
        Check.colours("a shorter chain", x, 0, 0, 1, 0);
        x.wall(3, 0, 1);
        Check.colours("turned about", x, 0, 0, 1, 2);
        Check.due("turned about: colours", 3, x::colours);
    }

    /** "An HOUR has a STAGE for each colour, 0 first." */
    private static void stagesGoByColour() {
        ZoneThreads x = Given.values(1000, 2000, 4000);
        x.wall(0, 1, 100);
        x.wall(1, 2, 100);
        Check.due("stages, foretold: zone 1", 2090, () -> x.foretold(1, 1));
        Check.due("stages, foretold: zone 2", 3800, () -> x.foretold(2, 1));
        x.run(1, 0, 1);
        Check.line("stages", x, 0, 0, 0, 0, 0);
        Check.line("stages", x, 1, 0, 2, 0, 0);
        Check.line("stages", x, 2, 0, 1, 0, 0);
        // Zone 0: 1000 + 100; zone 2: 4000 - 200; zone 1 sees both: 2000 - 90 + 180
        Check.values("stages", x, 1100, 2090, 3800);
        x.wall(0, 1, 0);
        Check.due("a wall less, foretold: zone 2", 3647, () -> x.foretold(2, 1));
        x.run(1, 0, 1);
        Check.line("a wall less", x, 0, 0, 0, 0, 0);
        Check.line("a wall less", x, 1, 0, 1, 0, 0);
        Check.line("a wall less", x, 2, 0, 2, 0, 0);
        // Zone 1 comes first now: 2090 + 171; zone 2: 3800 - 153
        Check.values("a wall less", x, 1100, 2261, 3647);
    }

    /** "In it each zone of the colour is DONE once." */
    private static void zonesAreDoneOnce() {
        ZoneThreads x = new ZoneThreads(24);
        for (int zone = 0; zone < 23; zone++) {
            x.wall(zone, zone + 1, 1);
        }
        x.run(16, 3, 2);
        Check.due("once: lines", 48, () -> x.book(-1, 0));
        for (int k = 0; k < 48; k++) {
            int place = k % 24;
            int zone = place < 12 ? 2 * place : 2 * (place - 12) + 1;
            int line = k;
            int hour = k / 24;
            Check.due("once: zone of line " + k, zone, () -> x.book(line, 1));
            Check.due("once: hour of line " + k, hour, () -> x.book(line, 2));
        }
    }

    /** "takes the least zone of the colour that is not done": after a failure the same one. */
    private static void theLeastZoneIsTaken() {
        ZoneThreads x = new ZoneThreads(3);
        for (int worker = 0; worker < 15; worker++) {
            x.fails(worker, 1, 0, true);
        }
        x.run(16, 2, 1);
        int lines = x.book(-1, 0);
        Check.due("the least: the first", 0, () -> x.book(0, 1));
        for (int k = 1; k < lines - 1; k++) {
            int line = k;
            Check.due("the least: line " + k, 1, () -> x.book(line, 1));
            Check.due("the least: line " + k + " failed", line < lines - 2 ? 1 : 0, () -> x.book(line, 3));
        }
        Check.due("the least: the last", 2, () -> x.book(lines - 1, 1));
    }

    /** "If it is told that this worker FAILS at this zone in this hour": all three must agree. */
    private static void neighboursOfAFailureDoNotFail() {
        ZoneThreads x = new ZoneThreads(3);
        x.fails(0, 1, 3, true);
        Check.due("before the hour", 3, () -> x.run(1, 0, 3));
        Check.due("before the hour: did", 9, () -> x.did(0));
        Check.due("in the hour", 3, () -> x.run(1, 0, 4));
        Check.due("in the hour: lines", 11, () -> x.book(-1, 0));
        Check.line("in the hour", x, 9, 0, 0, 3, 0);
        Check.line("in the hour", x, 10, 0, 1, 3, 1);
        ZoneThreads y = new ZoneThreads(3);
        y.fails(1, 1, 0, true);
        y.fails(15, 1, 0, true);
        Check.due("another worker", 1, () -> y.run(1, 0, 1));
        ZoneThreads z = new ZoneThreads(3);
        z.fails(0, 2, 1, true);
        z.fails(0, 2, 1, false);
        Check.due("not told any more", 2, () -> z.run(1, 0, 2));
    }

    /** "the zone is as it was; else it is done": a failing taking does not change the value. */
    private static void theZoneIsAsItWas() {
        ZoneThreads x = Given.pair(1000, 0, 100);
        x.fails(16838 % 2, 0, 0, true);
        Check.due("as it was: run", 1, () -> x.run(2, 1, 1));
        Check.line("as it was", x, 0, 0, 0, 0, 1);
        Check.line("as it was", x, 1, 1, 0, 0, 0);
        Check.line("as it was", x, 2, 1, 1, 0, 0);
        Check.values("as it was", x, 900, 90);
    }

    /** "it is GONE for the rest of the run"; "nobody is gone" at first of the next. */
    private static void goneForTheRestOfTheRun() {
        ZoneThreads x = new ZoneThreads(2);
        x.fails(0, 0, 0, true);
        Check.due("gone: run", 50, () -> x.run(2, 1, 50));
        Check.line("gone", x, 0, 0, 0, 0, 1);
        for (int k = 1; k <= 100; k++) {
            int line = k;
            Check.due("gone: line " + k, 1, () -> x.book(line, 0));
        }
        Check.due("gone: did(0)", -1, () -> x.did(0));
        Check.due("gone: did(1)", 100, () -> x.did(1));
        x.fails(0, 0, 0, false);
        x.run(2, 1, 1);
        Check.line("back", x, 0, 0, 0, 0, 0);
        Check.due("back: did(0)", true, () -> x.did(0) >= 1);
    }

    /** "the one with (H >>> 16) modulo n of them before it": places close up behind the gone. */
    private static void goneFromTheFrontAndTheBack() {
        for (int gone = 0; gone < 5; gone++) {
            int worker = gone;
            int seed = seedThatDraws(gone, 5);
            ZoneThreads x = new ZoneThreads(24);
            x.fails(worker, 0, 0, true);
            x.run(5, seed, 2);
            int[] halves = Given.draws(seed, 49);
            Check.line("worker " + gone + " gone", x, 0, gone, 0, 0, 1);
            for (int k = 1; k < 49; k++) {
                int place = halves[k] % 4;
                int line = k;
                Check.due("worker " + gone + " gone: line " + k, place < worker ? place : place + 1,
                        () -> x.book(line, 0));
            }
        }
    }

    private static int seedThatDraws(int worker, int workers) {
        int seed = 0;
        while (Given.draws(seed, 1)[0] % workers != worker) {
            seed++;
        }
        return seed;
    }

    /** "If all workers are gone": one that is left does the rest. */
    private static void allButOneGone() {
        for (int left : new int[] {0, 7, 15}) {
            ZoneThreads x = onlyOneLeft(left, 1215);
            Check.due("worker " + left + " left: lines", 1215, () -> x.book(-1, 0));
            int did = 0;
            for (int k = 0; k < 100; k++) {
                did += x.book(1214 - k, 0) == left ? 1 : 0;
            }
            int last = did;
            Check.due("worker " + left + " left: does all at last", 100, () -> last);
            for (int worker = 0; worker < 16; worker++) {
                int w = worker;
                Check.due("worker " + left + " left: is " + w + " gone", w != left, () -> x.did(w) == -1);
            }
        }
        ZoneThreads two = new ZoneThreads(1);
        two.fails(16838 % 2, 0, 0, true);
        Check.due("one of two left", 50, () -> two.run(2, 1, 50));
        Check.due("one of two left: did", 50, () -> two.did(1));
    }

    /** A run of the first seed by which all workers but one are drawn where they fail. */
    private static ZoneThreads onlyOneLeft(int left, int lines) {
        for (int seed = 0; ; seed++) {
            ZoneThreads x = new ZoneThreads(24);
            for (int told = 0; told < 12 * 16; told++) {
                if (told % 16 != left) {
                    x.fails(told % 16, 0, told / 16, true);
                }
            }
            x.run(16, seed, 50);
            if (x.book(-1, 0) == lines || seed == 100) {
                return x;
            }
        }
    }

    /** "If all workers are gone, the hour is UNDONE .. and the run ends": at once. */
    private static void undoneAtTheFirstTaking() {
        ZoneThreads x = Given.pair(1000, 0, 100);
        x.fails(0, 0, 0, true);
        Check.due("first taking: run", 0, () -> x.run(1, 8, 50));
        Check.values("first taking", x, 1000, 0);
        Check.due("first taking: lines", 1, () -> x.book(-1, 0));
        ZoneThreads y = Given.pair(1000, 0, 100);
        for (int worker = 0; worker < 16; worker++) {
            y.fails(worker, 0, 0, true);
        }
        Check.due("all 16: run", 0, () -> y.run(16, 123456, 50));
        Check.due("all 16: lines", 16, () -> y.book(-1, 0));
        Check.values("all 16", y, 1000, 0);
        for (int worker = 0; worker < 16; worker++) {
            int w = worker;
            Check.due("all 16: did(" + w + ")", -1, () -> y.did(w));
        }
    }

    /** "all values are as at its beginning": also if but one zone of the last stage is not done. */
    private static void undoneAtTheLastTaking() {
        ZoneThreads x = new ZoneThreads(24);
        for (int zone = 0; zone < 23; zone++) {
            x.value(zone, 1000 * zone);
            x.wall(zone, 23, 100);
        }
        x.value(23, -1000000);
        for (int worker = 0; worker < 16; worker++) {
            x.fails(worker, 23, 0, true);
        }
        Check.due("last taking: foretold is another", true, () -> x.foretold(0, 1) != 0);
        Check.due("last taking: run", 0, () -> x.run(16, 6, 50));
        Check.due("last taking: lines", 23 + 16, () -> x.book(-1, 0));
        for (int zone = 0; zone < 23; zone++) {
            int z = zone;
            Check.due("last taking: at(" + z + ")", 1000 * z, () -> x.at(z));
        }
        Check.due("last taking: at(23)", -1000000, () -> x.at(23));
    }

    /** "all values are as at its beginning": that of the hour, not of the run. */
    private static void undoneInALaterHour() {
        ZoneThreads x = Given.pair(1000, 0, 100);
        x.fails(0, 1, 1, true);
        Check.due("later hour: run", 1, () -> x.run(1, 8, 50));
        Check.values("later hour", x, 900, 90);
        Check.due("later hour: lines", 4, () -> x.book(-1, 0));
        Check.line("later hour", x, 2, 0, 0, 1, 0);
        Check.line("later hour", x, 3, 0, 1, 1, 1);
        ZoneThreads y = Given.pair(1000, 0, 100);
        int before = y.foretold(0, 49);
        int other = y.foretold(1, 49);
        y.fails(0, 0, 49, true);
        Check.due("the last hour: run", 49, () -> y.run(1, 8, 50));
        Check.values("the last hour", y, before, other);
        Check.due("the last hour: lines", 99, () -> y.book(-1, 0));
    }

    /** An undone hour is not done, though the run stops behind it or it is the last. */
    private static void undoneHoursDoNotStop() {
        ZoneThreads x = Given.pair(1000, 0, 100);
        x.fails(0, 1, 2, true);
        x.stops(2);
        Check.due("undone and stop", 2, () -> x.run(1, 0, 50));
        x.stops(1);
        Check.due("stop before undone", 2, () -> x.run(1, 0, 50));
        Check.due("stop before undone: lines", 4, () -> x.book(-1, 0));
        Check.due("stop before undone: did", 4, () -> x.did(0));
        x.stops(3);
        Check.due("undone before stop", 2, () -> x.run(1, 0, 3));
        Check.due("undone before stop: lines", 6, () -> x.book(-1, 0));
    }

    /** "A RUN has hours 0, 1, ..": hours are counted anew in each run, and those behind its end are not come to. */
    private static void hoursOfOtherRunsDoNotFail() {
        ZoneThreads x = new ZoneThreads(1);
        x.fails(0, 0, 49, true);
        x.fails(0, 0, 50, true);
        x.fails(0, 0, 999, true);
        Check.due("49 hours", 49, () -> x.run(1, 0, 49));
        Check.due("49 hours more", 49, () -> x.run(1, 0, 49));
        Check.due("50 hours", 49, () -> x.run(1, 0, 50));
        x.fails(0, 0, 49, false);
        Check.due("50 hours, hour 50 fails", 50, () -> x.run(1, 0, 50));
        Check.due("hour 0 of the second run", 0, () -> x.book(0, 2));
    }

    /** "behind an hour of which it is told that one STOPS behind it, it ends". */
    private static void stopsBehindEachHour() {
        ZoneThreads x = new ZoneThreads(1);
        for (int hour = 0; hour < 50; hour++) {
            int h = hour;
            x.stops(h);
            Check.due("stops behind " + h, h + 1, () -> x.run(1, 0, 50));
            Check.due("stops behind " + h + ": lines", h + 1, () -> x.book(-1, 0));
        }
        for (int hour : new int[] {50, 51, 999, -1}) {
            x.stops(hour);
            Check.due("stops behind " + hour, 50, () -> x.run(1, 0, 50));
        }
        x.stops(4);
        Check.due("stops behind 4 of 6", 5, () -> x.run(1, 0, 6));
        Check.due("stops behind 4 of 5", 5, () -> x.run(1, 0, 5));
        Check.due("stops behind 4 of 4", 4, () -> x.run(1, 0, 4));
        x.stops(0);
        Check.due("stops behind 0 of 1", 1, () -> x.run(1, 0, 1));
    }

    /** Promise 5: "Runs STOP behind an hour": all that follow; NONE: "behind none". */
    private static void stopsHoldForLaterRuns() {
        ZoneThreads x = new ZoneThreads(1);
        Check.due("no stop before", -1, () -> x.stops(1));
        Check.due("first run", 2, () -> x.run(1, 0, 50));
        Check.due("second run", 2, () -> x.run(3, 5, 50));
        Check.due("the stop stands", 1, () -> x.stops(0));
        Check.due("another stop", 1, () -> x.run(1, 0, 50));
        Check.due("0 was told", 0, () -> x.stops(999));
        Check.due("999 was told", 999, () -> x.stops(-1));
        Check.due("none was told", -1, () -> x.stops(-1));
        Check.due("behind none", 50, () -> x.run(1, 0, 50));
    }

    /** "a line for each taking (also failing ones, and those of an undone hour)". */
    private static void theBookHasAllTakings() {
        ZoneThreads x = new ZoneThreads(2);
        x.fails(0, 1, 1, true);
        x.fails(1, 1, 1, true);
        Check.due("all takings: run", 1, () -> x.run(2, 1, 3));
        Check.due("all takings: lines", 5, () -> x.book(-1, 0));
        Check.line("all takings", x, 0, 16838 % 2, 0, 0, 0);
        Check.line("all takings", x, 1, 38526 % 2, 1, 0, 0);
        Check.line("all takings", x, 2, 10113 % 2, 0, 1, 0);
        Check.line("all takings", x, 3, 50283 % 2, 1, 1, 1);
        Check.line("all takings", x, 4, 0, 1, 1, 1);
        Check.argument("all takings: no line more", () -> x.book(5, 0));
    }

    /** Promise 12: "NONE if it is gone in it, or was none of its workers". */
    private static void didOfGoneAndAbsent() {
        ZoneThreads x = new ZoneThreads(4);
        // Seed 1 of 3: 2, 0, 0, 0: worker 0 has done two zones when it is gone, worker 1 none.
        x.fails(0, 3, 0, true);
        Check.due("gone after work: run", 1, () -> x.run(3, 1, 1));
        Check.line("gone after work", x, 3, 0, 3, 0, 1);
        Check.due("gone after work: did(0)", -1, () -> x.did(0));
        Check.due("gone after work: those left", 2, () -> x.did(1) + x.did(2));
        Check.due("not in the run: did(3)", -1, () -> x.did(3));
        Check.due("not in the run: did(15)", -1, () -> x.did(15));
        x.fails(0, 3, 0, false);
        x.run(3, 1, 1);
        Check.due("nobody gone: did(0)", 3, () -> x.did(0));
        Check.due("drawn for nothing: did(1)", 0, () -> x.did(1));
        Check.due("nobody gone: did(2)", 1, () -> x.did(2));
        x.run(1, 1, 1);
        Check.due("the latest run alone: did(0)", 4, () -> x.did(0));
        Check.due("the latest run alone: did(1)", -1, () -> x.did(1));
        Check.due("the latest run alone: did(2)", -1, () -> x.did(2));
    }

    /** Promise 13: "from now on, without failures and stops". */
    private static void foretoldWithoutFailuresAndStops() {
        ZoneThreads x = Given.pair(1000, 0, 100);
        for (int worker = 0; worker < 16; worker++) {
            x.fails(worker, 0, 0, true);
            x.fails(worker, 1, 1, true);
        }
        x.stops(0);
        Check.due("after no hour", 1000, () -> x.foretold(0, 0));
        Check.due("after no hour, the other", 0, () -> x.foretold(1, 0));
        Check.due("after one hour", 900, () -> x.foretold(0, 1));
        Check.due("after three hours", 754, () -> x.foretold(0, 3));
        Check.due("after three hours, the other", 221, () -> x.foretold(1, 3));
        Check.due("the run fails", 0, () -> x.run(16, 0, 3));
        Check.due("from now on: after a run that was undone", 900, () -> x.foretold(0, 1));
        x.value(0, 2000);
        Check.due("from now on: after a new value", 1800, () -> x.foretold(0, 1));
        x.wall(0, 1, 50);
        Check.due("from now on: after a new share", 1900, () -> x.foretold(0, 1));
    }

    /** "that with the greatest rank and age together". */
    private static void ranksAndAgesTogether() {
        ZoneThreads x = new ZoneThreads(1);
        x.job(0);
        x.job(2);
        Check.due("2 before 0", 1, x::take);
        x.job(2);
        Check.due("2 before 0 + 1", 2, x::take);
        x.job(1);
        Check.due("0 + 2 before 1", 0, x::take);
        Check.due("then 1 + 1", 3, x::take);
        ZoneThreads y = new ZoneThreads(1);
        y.job(0);
        y.job(100);
        Check.due("the greatest rank before the least", 1, y::take);
        Check.due("then the least", 0, y::take);
    }

    /** Ages have no bound: rank 0 comes to be more than rank 100. */
    private static void agesGoBeyondTheGreatestRank() {
        ZoneThreads x = new ZoneThreads(1);
        x.job(0);
        x.job(0);
        for (int n = 1; n <= 100; n++) {
            int number = n + 1;
            x.job(100);
            Check.due("taking " + n, number, x::take);
        }
        Check.due("age of the first", 100, () -> x.age(0));
        x.job(100);
        Check.due("0 + 100 is as much as 100, and came first", 0, x::take);
        Check.due("0 + 101 is as much as 100 + 1, and came first", 1, x::take);
        Check.due("the last", 102, x::take);
        ZoneThreads y = new ZoneThreads(1);
        y.job(1);
        y.job(0);
        for (int n = 0; n < 99; n++) {
            y.job(100);
            y.take();
        }
        y.job(100);
        Check.due("1 + 99 is as much as 100", 0, y::take);
        y.job(100);
        Check.due("100 + 1 before 0 + 100 and 100", 101, y::take);
        Check.due("0 + 101 is as much as 100 + 1", 1, y::take);
        for (int n = 0; n < 50; n++) {
            y.job(100);
        }
        Check.due("100 + 2 before 100", 102, y::take);
    }

    /** "of several the first that came". */
    private static void theFirstThatCame() {
        ZoneThreads x = new ZoneThreads(1);
        for (int n = 0; n < 100; n++) {
            x.job(100);
        }
        for (int n = 0; n < 100; n++) {
            int number = n;
            Check.due("of several, taking " + n, number, x::take);
        }
        ZoneThreads y = new ZoneThreads(1);
        y.job(4);
        y.job(6);
        y.job(6);
        Check.due("first of two sixes", 1, y::take);
        y.job(7);
        // 4 + 1, 6 + 1 and 7: the older six came before the seven.
        Check.due("6 + 1 before 7", 2, y::take);
        y.job(8);
        Check.due("7 + 1 before 8", 3, y::take);
        Check.due("8 + 1 before 4 + 3", 4, y::take);
        Check.due("the last", 0, y::take);
    }

    /** "the ages of all others grow by 1 then"; promise 16: "how many were taken since it came". */
    private static void agesOfAllOthersGrow() {
        ZoneThreads x = new ZoneThreads(1);
        for (int n = 0; n < 100; n++) {
            x.job(100 - n);
        }
        x.take();
        Check.due("the taken one", -1, () -> x.age(0));
        for (int job = 1; job < 100; job++) {
            int number = job;
            Check.due("age(" + number + ")", 1, () -> x.age(number));
        }
        x.job(0);
        Check.due("the new one", 0, () -> x.age(100));
        x.take();
        Check.due("the first left", 2, () -> x.age(2));
        Check.due("the last of the old ones", 2, () -> x.age(99));
        Check.due("the new one, one taking later", 1, () -> x.age(100));
        x.run(1, 1, 1);
        x.foretold(0, 50);
        Check.due("a run ages nobody", 2, () -> x.age(2));
    }

    /** Promise 16: "how many were taken since it came": none yet, however old others were. */
    private static void newJobsHaveNoAge() {
        ZoneThreads x = new ZoneThreads(1);
        for (int n = 0; n < 10; n++) {
            x.job(50);
        }
        for (int n = 0; n < 10; n++) {
            int number = 10 + n;
            x.take();
            x.take();
            Check.due("job " + number, number, () -> x.job(0));
            Check.due("age of job " + number, 0, () -> x.age(number));
        }
        ZoneThreads y = new ZoneThreads(1);
        for (int n = 0; n < 3; n++) {
            y.job(3);
        }
        y.take();
        y.take();
        y.take();
        y.job(0);
        y.job(1);
        Check.due("an old age would have been more than rank 1", 4, y::take);
        Check.due("then rank 0", 3, y::take);
    }
}
