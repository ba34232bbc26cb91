import java.math.BigInteger;

/** Objects that tests begin with, and the numbers that a run draws. */
final class Given {
    private Given() {
    }

    static ZoneThreads values(int... row) {
        ZoneThreads x = new ZoneThreads(row.length);
        for (int zone = 0; zone < row.length; zone++) {
            x.value(zone, row[zone]);
        }
        return x;
    }

    static ZoneThreads pair(int first, int second, int share) {
        ZoneThreads x = values(first, second);
        x.wall(0, 1, share);
        return x;
    }

    /** Zone 0 with a wall to each of so many others, which have one value and no other wall. */
    static ZoneThreads star(int middle, int others, int count, int share) {
        ZoneThreads x = new ZoneThreads(count + 1);
        x.value(0, middle);
        for (int zone = 1; zone <= count; zone++) {
            x.value(zone, others);
            x.wall(0, zone, share);
        }
        return x;
    }

    /** The upper halves of the first so many H, without any of Java's own wrapping. */
    static int[] draws(int seed, int count) {
        BigInteger size = BigInteger.ONE.shiftLeft(32);
        BigInteger h = BigInteger.valueOf(seed).mod(size);
        int[] halves = new int[count];
        for (int k = 0; k < count; k++) {
            h = h.multiply(BigInteger.valueOf(1103515245)).add(BigInteger.valueOf(12345)).mod(size);
            halves[k] = h.divide(BigInteger.valueOf(65536)).intValueExact();
        }
        return halves;
    }
}
