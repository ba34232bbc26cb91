import java.util.Random;

/** Runs of 512 drawn calls, each answered as the plain model answers it. */
public final class ModelTest {
    private static final int RUNS = 400;
    private static final int CALLS = 512;

    private final Random random;
    private final ZoneThreads x;
    private final PlainModel model;
    private final int zones;
    private final int hourSpan;
    private final int jobWeight;
    private final int failWeight;
    private final int wallWeight;
    private final boolean extremes;

    private ModelTest(int seed) {
        random = new Random(seed);
        int asked = random.nextInt(6) == 0 ? random.nextInt(40) - 5 : 1 + random.nextInt(24);
        x = new ZoneThreads(asked);
        model = new PlainModel(asked);
        zones = Math.max(1, Math.min(24, asked));
        hourSpan = random.nextBoolean() ? 4 : 50;
        // Now and then one kind of call prevails, so that its limits are come to.
        jobWeight = weight(12);
        failWeight = weight(30);
        wallWeight = weight(12);
        extremes = random.nextInt(4) == 0;
    }

    public static void main(String[] args) {
        for (int seed = 0; seed < RUNS; seed++) {
            ModelTest run = new ModelTest(seed);
            for (int call = 0; call < CALLS; call++) {
                run.step("seed " + seed + ", call " + call + ": ");
            }
        }
        Check.end();
    }

    private int weight(int usual) {
        return random.nextInt(6) == 0 ? 150 : 1 + random.nextInt(usual);
    }

    /** Mostly within the bounds, sometimes at their edges, sometimes outside. */
    private int number(int least, int most) {
        switch (random.nextInt(40)) {
            case 0:
                return least - 1;
            case 1:
                return most + 1;
            case 2:
                return random.nextInt();
            case 3:
                return random.nextBoolean() ? Integer.MIN_VALUE : Integer.MAX_VALUE;
            case 4:
                return least;
            case 5:
                return most;
            default:
                return most < least ? least : least + random.nextInt(most - least + 1);
        }
    }

    private int zone() {
        return number(0, zones - 1);
    }

    private void same(String what, Check.Call real, Check.Call plain) {
        Check.due(what, Check.heard(plain), real);
    }

    private void step(String where) {
        int[] weights = {wallWeight, 6, failWeight, 2, 4, 1, 2, 2, 2, 4, 2, 2, jobWeight, jobWeight / 2, 2};
        int all = 0;
        for (int weight : weights) {
            all += weight;
        }
        int drawn = random.nextInt(all);
        int kind = 0;
        while (drawn >= weights[kind]) {
            drawn -= weights[kind];
            kind++;
        }
        if (kind < 5) {
            change(where, kind);
        } else if (kind < 12) {
            tell(where, kind);
        } else {
            wait(where, kind);
        }
    }

    private void change(String where, int kind) {
        int a = zone();
        int b = zone();
        int worker = number(0, 15);
        int hour = random.nextInt(20) == 0 ? number(0, 999) : number(0, hourSpan - 1);
        switch (kind) {
            case 0: {
                int share = extremes ? 100 : random.nextInt(4) == 0 ? 0 : number(0, 100);
                same(where + "wall(" + a + ", " + b + ", " + share + ")", () -> x.wall(a, b, share), () -> model.wall(a, b, share));
                break;
            }
            case 1: {
                int v = extremes ? random.nextBoolean() ? 1000000 : -1000000 : number(-1000000, 1000000);
                same(where + "value(" + a + ", " + v + ")", () -> x.value(a, v), () -> model.value(a, v));
                break;
            }
            case 2: {
                boolean on = random.nextInt(5) != 0;
                same(where + "fails(" + worker + ", " + a + ", " + hour + ", " + on + ")",
                        () -> x.fails(worker, a, hour, on), () -> model.fails(worker, a, hour, on));
                break;
            }
            case 3: {
                int stop = random.nextInt(3) == 0 ? -1 : hour;
                same(where + "stops(" + stop + ")", () -> x.stops(stop), () -> model.stops(stop));
                break;
            }
            default: {
                int workers = number(1, 16);
                int seed = random.nextInt();
                int hours = number(1, hourSpan);
                same(where + "run(" + workers + ", " + seed + ", " + hours + ")",
                        () -> x.run(workers, seed, hours), () -> model.run(workers, seed, hours));
            }
        }
    }

    private void tell(String where, int kind) {
        int a = zone();
        switch (kind) {
            case 5:
                same(where + "colours()", x::colours, model::colours);
                break;
            case 6:
                same(where + "colour(" + a + ")", () -> x.colour(a), () -> model.colour(a));
                break;
            case 7:
                same(where + "at(" + a + ")", () -> x.at(a), () -> model.at(a));
                break;
            case 8:
                same(where + "sum()", x::sum, model::sum);
                break;
            case 9: {
                int k = random.nextInt(4) == 0 ? -1 : number(0, model.book(-1, 0) - 1);
                int what = number(0, 3);
                same(where + "book(" + k + ", " + what + ")", () -> x.book(k, what), () -> model.book(k, what));
                break;
            }
            case 10: {
                int worker = number(0, 15);
                same(where + "did(" + worker + ")", () -> x.did(worker), () -> model.did(worker));
                break;
            }
            default: {
                int hours = number(0, hourSpan);
                same(where + "foretold(" + a + ", " + hours + ")", () -> x.foretold(a, hours), () -> model.foretold(a, hours));
            }
        }
    }

    private void wait(String where, int kind) {
        switch (kind) {
            case 12: {
                int rank = number(0, random.nextBoolean() ? 5 : 100);
                same(where + "job(" + rank + ")", () -> x.job(rank), () -> model.job(rank));
                break;
            }
            case 13:
                same(where + "take()", x::take, model::take);
                break;
            default: {
                int job = number(0, 60);
                same(where + "age(" + job + ")", () -> x.age(job), () -> model.age(job));
            }
        }
    }
}
