import java.util.ArrayList;
import java.util.List;

/** A number that a call takes, with its bounds in a scene; the call's other numbers are legal. */
record Bound(String name, int least, int most, Call call) {
    interface Call {
        Object with(ZoneThreads x, int number);
    }

    /** The nearest numbers outside, and the farthest. */
    int[] outside() {
        return new int[] {least - 1, most + 1, Integer.MIN_VALUE, Integer.MAX_VALUE};
    }

    static List<Bound> of(Scene scene) {
        List<Bound> all = new ArrayList<>();
        int last = scene.zones() - 1;
        if (last > 0) {
            all.add(new Bound("wall's zone", 0, last, (x, n) -> x.wall(n, n == 0 ? 1 : 0, 5)));
            all.add(new Bound("wall's other zone", 0, last, (x, n) -> x.wall(n == 0 ? 1 : 0, n, 5)));
            all.add(new Bound("wall's share", 0, 100, (x, n) -> x.wall(0, 1, n)));
        }
        all.add(new Bound("value's zone", 0, last, (x, n) -> x.value(n, 7)));
        all.add(new Bound("value's v", -1000000, 1000000, (x, n) -> x.value(0, n)));
        for (boolean on : new boolean[] {true, false}) {
            all.add(new Bound("fails' worker, " + on, 0, 15, (x, n) -> x.fails(n, 0, 600, on)));
            all.add(new Bound("fails' zone, " + on, 0, last, (x, n) -> x.fails(3, n, 600, on)));
            all.add(new Bound("fails' hour, " + on, 0, 999, (x, n) -> x.fails(15, last, n, on)));
        }
        all.add(new Bound("stops' hour", -1, 999, (x, n) -> x.stops(n)));
        all.add(new Bound("run's workers", 1, 16, (x, n) -> x.run(n, 3, 2)));
        all.add(new Bound("run's hours", 1, 50, (x, n) -> x.run(2, 3, n)));
        all.add(new Bound("colour's zone", 0, last, (x, n) -> x.colour(n)));
        all.add(new Bound("at's zone", 0, last, (x, n) -> x.at(n)));
        for (int what = 0; what < 4; what++) {
            int w = what;
            all.add(new Bound("book's line of " + w, -1, scene.lines() - 1, (x, n) -> x.book(n, w)));
        }
        all.add(new Bound("what of no line", 0, 3, (x, n) -> x.book(-1, n)));
        if (scene.lines() > 0) {
            all.add(new Bound("what of the first line", 0, 3, (x, n) -> x.book(0, n)));
            all.add(new Bound("what of the last line", 0, 3, (x, n) -> x.book(scene.lines() - 1, n)));
        }
        all.add(new Bound("did's worker", 0, 15, (x, n) -> x.did(n)));
        all.add(new Bound("foretold's zone", 0, last, (x, n) -> x.foretold(n, 2)));
        all.add(new Bound("foretold's hours", 0, 50, (x, n) -> x.foretold(last, n)));
        all.add(new Bound("job's rank", 0, 100, (x, n) -> x.job(n)));
        all.add(new Bound("age's job", 0, scene.came() - 1, (x, n) -> x.age(n)));
        return all;
    }
}
