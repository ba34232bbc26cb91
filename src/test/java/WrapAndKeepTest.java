/** Values, sums and the number H where they are rounded, kept within bounds or wrap around. */
public final class WrapAndKeepTest {
    public static void main(String[] args) {
        quotientsAreRoundedTo0();
        theQuotientAloneIsRounded();
        theSumOverWallsIsRounded();
        leastAndGreatestShare();
        valuesReachTheirBounds();
        valuesAreKeptWithin();
        keptValuesGoOn();
        flowsBeyondAnInt();
        sumsReachTheirBounds();
        sumsAreKeptInEachHalf();
        halvesAreRoundedUp();
        sumsOfEachCount();
        hWrapsAround();
        hIsHalvedUnsigned();
        hGoesOn();
        hBeginsAnew();
        hMovesForFailingTakings();
        Check.end();
    }

    private static void afterAnHour(String what, int due, ZoneThreads x) {
        Check.due(what + ", foretold", due, () -> x.foretold(0, 1));
        x.run(1, 0, 1);
        Check.due(what, due, () -> x.at(0));
    }

    /** Terms: "the quotient rounded to 0". */
    private static void quotientsAreRoundedTo0() {
        int[][] rows = {
            {0, 0}, {1, 0}, {999, 0}, {1000, 1}, {1001, 1}, {1999, 1}, {2000, 2},
            {-1, 0}, {-999, 0}, {-1000, -1}, {-1001, -1}, {-1999, -1}, {-2000, -2},
        };
        for (int[] row : rows) {
            afterAnHour("0 beside " + row[0] + " by 1", row[1], Given.pair(0, row[0], 1));
        }
    }

    /** Terms: "v + (..) / 1000, the quotient rounded to 0": not v and the quotient together. */
    private static void theQuotientAloneIsRounded() {
        afterAnHour("5, less 1.999", 4, Given.pair(5, 5 - 1999, 1));
        afterAnHour("-5, more 1.999", -4, Given.pair(-5, -5 + 1999, 1));
        afterAnHour("5, less 0.999", 5, Given.pair(5, 5 - 999, 1));
        afterAnHour("-5, more 0.999", -5, Given.pair(-5, -5 + 999, 1));
        afterAnHour("1, less 2.5", -1, Given.pair(1, 1 - 25, 100));
        afterAnHour("-1, more 2.5", 1, Given.pair(-1, -1 + 25, 100));
    }

    /** Terms: "(the sum over its walls of share * (w - v)) / 1000": one quotient for all walls. */
    private static void theSumOverWallsIsRounded() {
        afterAnHour("two halves", 1, threeZones(0, 500, 500));
        afterAnHour("two halves down", -1, threeZones(0, -500, -500));
        afterAnHour("one short of two halves", 0, threeZones(0, 500, 499));
        afterAnHour("1.5 less 0.6", 0, threeZones(0, 1500, -600));
        afterAnHour("0.6 less 1.5", 0, threeZones(0, 600, -1500));
        afterAnHour("both ways alike", 7, threeZones(7, 1000000, -999986));
    }

    private static ZoneThreads threeZones(int first, int second, int third) {
        ZoneThreads x = Given.values(first, second, third);
        x.wall(0, 1, 1);
        x.wall(2, 0, 1);
        return x;
    }

    /** Terms: "a SHARE (0: none, at first; 1 .. 100)". */
    private static void leastAndGreatestShare() {
        afterAnHour("no wall", 0, Given.pair(0, 1000000, 0));
        afterAnHour("share 1", 1000, Given.pair(0, 1000000, 1));
        afterAnHour("share 99", 99000, Given.pair(0, 1000000, 99));
        afterAnHour("share 100", 100000, Given.pair(0, 1000000, 100));
        ZoneThreads x = Given.pair(0, 1000000, 100);
        x.wall(1, 0, 0);
        afterAnHour("no wall any more", 0, x);
        ZoneThreads y = Given.pair(0, 1000000, 100);
        y.wall(1, 0, 1);
        afterAnHour("from 100 to 1", 1000, y);
    }

    /** Terms: "kept within -1000000 .. 1000000": what comes to the bound itself is not changed. */
    private static void valuesReachTheirBounds() {
        // 11 walls of 100: v + 1.1 * (w - v)
        afterAnHour("just below the top", 999999, Given.star(0, 909090, 11, 100));
        afterAnHour("the top", 1000000, Given.star(0, 909091, 11, 100));
        afterAnHour("just above the top", 1000000, Given.star(0, 909092, 11, 100));
        afterAnHour("just above the bottom", -999999, Given.star(0, -909090, 11, 100));
        afterAnHour("the bottom", -1000000, Given.star(0, -909091, 11, 100));
        afterAnHour("just below the bottom", -1000000, Given.star(0, -909092, 11, 100));
        afterAnHour("from the bottom to the top", 1000000, Given.star(-1000000, 1000000, 10, 100));
        afterAnHour("from the top to the bottom", -1000000, Given.star(1000000, -1000000, 10, 100));
        afterAnHour("at the top and all alike", 1000000, Given.star(1000000, 1000000, 23, 100));
        afterAnHour("at the bottom and all alike", -1000000, Given.star(-1000000, -1000000, 23, 100));
    }

    /** Terms: "kept within -1000000 .. 1000000": what goes beyond. */
    private static void valuesAreKeptWithin() {
        afterAnHour("far above the top", 1000000, Given.star(0, 1000000, 23, 100));
        afterAnHour("far below the bottom", -1000000, Given.star(0, -1000000, 23, 100));
    }

    /** Terms: zones of later colours see the kept value, and so do later hours. */
    private static void keptValuesGoOn() {
        ZoneThreads up = Given.star(0, 1000000, 23, 100);
        up.run(3, 9, 1);
        Check.values("kept above", up, 1000000, 1000000, 1000000);
        ZoneThreads down = Given.star(0, -1000000, 23, 100);
        down.run(3, 9, 1);
        Check.values("kept below", down, -1000000, -1000000, -1000000);
        // Zone 0 goes to the top, the others one tenth of the way; then it is 2.3 times as far down.
        ZoneThreads swing = Given.star(-500000, 500000, 23, 100);
        Check.due("swing: foretold", 1000000, () -> swing.foretold(0, 1));
        Check.due("swing: the others foretold", 550000, () -> swing.foretold(1, 1));
        Check.due("swing: two hours foretold", -35000, () -> swing.foretold(0, 2));
        swing.run(1, 1, 2);
        Check.values("swing: two hours", swing, -35000, 491500, 491500);
    }

    /** Terms: the sum over walls is a number, not one of 32 bits: up to 23 * 100 * 2000000. */
    private static void flowsBeyondAnInt() {
        for (int walls = 10; walls <= 23; walls++) {
            afterAnHour(walls + " walls up", 1000000, Given.star(-1000000, 1000000, walls, 100));
            afterAnHour(walls + " walls down", -1000000, Given.star(1000000, -1000000, walls, 100));
        }
    }

    /** Terms: "added, kept within -1000000 .. 1000000", at the bounds and just beyond. */
    private static void sumsReachTheirBounds() {
        Check.due("just below the top", 999999, () -> Given.values(999998, 1).sum());
        Check.due("the top", 1000000, () -> Given.values(999999, 1).sum());
        Check.due("just above the top", 1000000, () -> Given.values(1000000, 1).sum());
        Check.due("far above the top", 1000000, () -> Given.values(1000000, 1000000).sum());
        Check.due("just above the bottom", -999999, () -> Given.values(-999998, -1).sum());
        Check.due("the bottom", -1000000, () -> Given.values(-999999, -1).sum());
        Check.due("just below the bottom", -1000000, () -> Given.values(-1000000, -1).sum());
        Check.due("far below the bottom", -1000000, () -> Given.values(-1000000, -1000000).sum());
        Check.due("top and bottom", 0, () -> Given.values(1000000, -1000000).sum());
        Check.due("one zone at the top", 1000000, () -> Given.values(1000000).sum());
        Check.due("one zone at the bottom", -1000000, () -> Given.values(-1000000).sum());
    }

    /** Terms: the halves' sums are kept, too, before they are added. */
    private static void sumsAreKeptInEachHalf() {
        Check.due("both halves kept", 0, () -> Given.values(900000, 900000, -700000, -600000).sum());
        Check.due("the first half kept", 900000, () -> Given.values(900000, 900000, -50000, -50000).sum());
        Check.due("the other half kept", -900000, () -> Given.values(50000, 50000, -900000, -900000).sum());
        ZoneThreads x = new ZoneThreads(24);
        for (int zone = 0; zone < 24; zone++) {
            x.value(zone, zone < 12 ? 1000000 : -100000);
        }
        Check.due("12 and 12", 0, x::sum);
        ZoneThreads y = new ZoneThreads(24);
        y.value(0, 1000000);
        y.value(1, 1000000);
        y.value(2, -1000000);
        y.value(3, 5);
        // Of 24 zones the innermost pair is 0 and 1: kept there, so zone 2 takes all of it away.
        Check.due("kept in the innermost pair", 5, y::sum);
    }

    /** Terms: "that of the first half (rounded up) and that of the others". */
    private static void halvesAreRoundedUp() {
        Check.due("three: 2 and 1", 999990, () -> Given.values(1000000, 5, -10).sum());
        Check.due("three, turned", 999995, () -> Given.values(5, -10, 1000000).sum());
        Check.due("four: 2 and 2", 999995, () -> Given.values(0, 1000000, 5, -10).sum());
        Check.due("five: 3 and 2", 999995, () -> Given.values(0, 0, 1000000, 5, -10).sum());
        Check.due("six: 3 and 3", 999985, () -> Given.values(0, 1000000, 5, -10, -20, 15).sum());
        Check.due("seven: 4 and 3", 999995, () -> Given.values(0, 0, 0, 1000000, 5, -10, 0).sum());
    }

    /**
     * For each count: the last of the first half at the top and the first of the others at 7, which
     * is taken away again behind it: nothing is kept out only if the tree parts them there.
     */
    private static void sumsOfEachCount() {
        for (int count = 3; count <= 24; count++) {
            int half = (count + 1) / 2;
            int[] row = new int[count];
            row[half - 1] = 1000000;
            row[half] = 7;
            if (half + 1 < count) {
                row[half + 1] = -9;
                Check.due("parted sum of " + count, 999998, () -> Given.values(row).sum());
            }
            int[] turned = new int[count];
            turned[half - 2] = 1000000;
            turned[half - 1] = 7;
            turned[half] = -9;
            Check.due("joined sum of " + count, 999991, () -> Given.values(turned).sum());
        }
    }

    /** Terms: "H becomes H * 1103515245 + 12345 (32 bits, wrapping)". */
    private static void hWrapsAround() {
        for (int seed : new int[] {0, 1, 2, -1, -2, Integer.MAX_VALUE, Integer.MIN_VALUE, 0x10000, 0xffff, -12345}) {
            for (int workers : new int[] {1, 2, 3, 7, 13, 16}) {
                takersAre("seed " + seed + " of " + workers, seed, workers);
            }
        }
    }

    private static void takersAre(String what, int seed, int workers) {
        ZoneThreads x = new ZoneThreads(24);
        x.run(workers, seed, 2);
        int[] halves = Given.draws(seed, 48);
        for (int k = 0; k < 48; k++) {
            int line = k;
            Check.due(what + ": taking " + k, halves[k] % workers, () -> x.book(line, 0));
        }
    }

    /** Terms: "(H >>> 16) modulo n": of an H with its first bit set, too. */
    private static void hIsHalvedUnsigned() {
        // Seed -1: H is 3191464396, then 288979989. Seed MIN: 2147495993, then 1406932606.
        ZoneThreads x = new ZoneThreads(2);
        x.run(7, -1, 1);
        Check.line("seed -1", x, 0, 48697 % 7, 0, 0, 0);
        Check.line("seed -1", x, 1, 4409 % 7, 1, 0, 0);
        x.run(7, Integer.MIN_VALUE, 1);
        Check.line("seed MIN", x, 0, 32768 % 7, 0, 0, 0);
        Check.line("seed MIN", x, 1, 21468 % 7, 1, 0, 0);
        x.run(7, Integer.MAX_VALUE, 1);
        Check.line("seed MAX", x, 0, 15929 % 7, 0, 0, 0);
        Check.line("seed MAX", x, 1, 37177 % 7, 1, 0, 0);
        x.run(7, 0, 1);
        Check.line("seed 0", x, 0, 0, 0, 0, 0);
        Check.line("seed 0", x, 1, 54236 % 7, 1, 0, 0);
    }

    /** Terms: "H is the seed at first" of a run, and goes on from stage to stage and hour to hour. */
    private static void hGoesOn() {
        ZoneThreads x = new ZoneThreads(3);
        x.wall(0, 1, 1);
        x.wall(1, 2, 1);
        x.wall(0, 2, 1);
        x.run(16, 5, 20);
        int[] halves = Given.draws(5, 60);
        for (int k = 0; k < 60; k++) {
            Check.line("stage by stage", x, k, halves[k] % 16, k % 3, k / 3, 0);
        }
    }

    /** Terms: "H is the seed at first", in each run. */
    private static void hBeginsAnew() {
        ZoneThreads x = new ZoneThreads(3);
        int[] halves = Given.draws(77, 3);
        for (int time = 0; time < 3; time++) {
            x.run(16, 77, 1);
            for (int k = 0; k < 3; k++) {
                Check.line("time " + time, x, k, halves[k] % 16, k, 0, 0);
            }
            x.foretold(0, 50);
            x.run(16, 78, 3);
        }
    }

    /** Terms: "In a stage, as long as a zone of its colour is not done: H becomes": when it failed, too. */
    private static void hMovesForFailingTakings() {
        // Seed 1: 16838, 38526, 10113, 50283
        ZoneThreads x = new ZoneThreads(2);
        x.fails(16838 % 16, 0, 0, true);
        x.run(16, 1, 1);
        Check.line("failing", x, 0, 6, 0, 0, 1);
        // Of the 15 others those from 6 on stand one place lower.
        Check.line("failing", x, 1, 38526 % 15 < 6 ? 38526 % 15 : 38526 % 15 + 1, 0, 0, 0);
        Check.line("failing", x, 2, 10113 % 15 < 6 ? 10113 % 15 : 10113 % 15 + 1, 1, 0, 0);
        Check.due("failing: lines", 3, () -> x.book(-1, 0));
    }
}
