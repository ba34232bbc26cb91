/**
 * "In all calls illegal argument: a number is out of its bounds": each number of each call, just
 * inside and just outside its bounds at both ends, in each scene.
 */
public final class BoundsTest {
    public static void main(String[] args) {
        for (Scene scene : Scene.all()) {
            scenesAreAsTheySay(scene);
            for (Bound bound : Bound.of(scene)) {
                inside(scene, bound);
                outside(scene, bound);
            }
        }
        zoneNumbersEndAtZ();
        oneZoneHasNoWall();
        oneZoneIsNoWall();
        anySeedIsLegal();
        Check.end();
    }

    private static void scenesAreAsTheySay(Scene scene) {
        Check.due(scene.name() + ": lines", scene.lines(), () -> scene.made().book(-1, 0));
        if (!scene.jobsFull()) {
            Check.due(scene.name() + ": next job", scene.came(), () -> scene.made().job(0));
        }
    }

    private static void inside(Scene scene, Bound bound) {
        if (bound.most() < bound.least()) {
            return;
        }
        for (int number : new int[] {bound.least(), bound.most()}) {
            String what = scene.name() + ": " + bound.name() + " " + number;
            String heard = Check.heard(() -> bound.call().with(scene.made(), number));
            boolean wantsRoom = bound.name().startsWith("fails") && scene.failuresFull()
                    || bound.name().startsWith("job") && scene.jobsFull();
            boolean legal = !heard.startsWith("throws.") || wantsRoom && heard.equals("throws.IllegalStateException");
            Check.due(what + " is legal, answered " + heard, true, () -> legal);
        }
    }

    private static void outside(Scene scene, Bound bound) {
        for (int number : bound.outside()) {
            String what = scene.name() + ": " + bound.name() + " " + number;
            Check.argument(what, () -> bound.call().with(scene.made(), number));
        }
    }

    /** Terms: "ZONES are 0 .. Z - 1", for each Z. */
    private static void zoneNumbersEndAtZ() {
        for (int zones = 1; zones <= 24; zones++) {
            Scene scene = new Scene(zones + " zones", zones, 0, 0, false, false, x -> { });
            for (Bound bound : Bound.of(scene)) {
                if (bound.name().contains("zone")) {
                    inside(scene, bound);
                    outside(scene, bound);
                }
            }
        }
    }

    /** Promise 2: "Illegal argument: also if both are one zone"; a lone zone has no other. */
    private static void oneZoneHasNoWall() {
        int[] numbers = {Integer.MIN_VALUE, -1, 0, 1, Integer.MAX_VALUE};
        ZoneThreads x = new ZoneThreads(1);
        for (int zone : numbers) {
            for (int other : numbers) {
                Check.argument("one zone: wall(" + zone + ", " + other + ", 1)", () -> x.wall(zone, other, 1));
            }
        }
    }

    /** Promise 2: "Illegal argument: also if both are one zone", whatever the share. */
    private static void oneZoneIsNoWall() {
        ZoneThreads x = new ZoneThreads(24);
        for (int share : new int[] {-1, 0, 1, 100, 101}) {
            for (int zone : new int[] {-1, 0, 1, 22, 23, 24}) {
                Check.argument("wall(" + zone + ", " + zone + ", " + share + ")", () -> x.wall(zone, zone, share));
            }
        }
        Check.due("neighbours by number", 0, () -> x.wall(22, 23, 1));
        Check.due("the first and the last", 0, () -> x.wall(0, 23, 1));
    }

    /** Promise 6: a seed has no bounds. */
    private static void anySeedIsLegal() {
        for (int seed : new int[] {Integer.MIN_VALUE, -1, 0, 1, Integer.MAX_VALUE}) {
            Check.due("run(16, " + seed + ", 50)", 50, () -> new ZoneThreads(24).run(16, seed, 50));
            Check.due("run(1, " + seed + ", 1)", 1, () -> new ZoneThreads(1).run(1, seed, 1));
        }
    }
}
