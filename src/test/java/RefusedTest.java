import java.util.ArrayList;
import java.util.List;

/**
 * "Of several exceptions the one named first is thrown; a call that throws changes nothing": an
 * object that refused a call answers all later calls as its twin does that was never asked.
 */
public final class RefusedTest {
    interface Probe {
        void tell(ZoneThreads x, Scene scene, List<String> answers);
    }

    /** Each works on an object of its own: most of what is told is told by changing it. */
    private static final List<Probe> PROBES = List.of(
            RefusedTest::zonesNow,
            RefusedTest::bookNow,
            RefusedTest::crewNow,
            RefusedTest::wallsNow,
            (x, scene, answers) -> failuresNow(x, scene, answers, 0, 1),
            (x, scene, answers) -> failuresNow(x, scene, answers, 2, 3),
            (x, scene, answers) -> failuresNow(x, scene, answers, 600, 999),
            RefusedTest::roomForFailures,
            RefusedTest::stopNow,
            RefusedTest::agesNow,
            RefusedTest::takenNext,
            RefusedTest::roomForJobs,
            RefusedTest::nextRun);

    public static void main(String[] args) {
        for (Scene scene : Scene.all()) {
            numbersOutOfBounds(scene);
            twoNumbersOutOfBounds(scene);
            oneZoneAsTwo(scene);
            noRoom(scene);
            callsThatOnlyTell(scene);
        }
        argumentsBeforeStates();
        Check.end();
    }

    private static void numbersOutOfBounds(Scene scene) {
        for (Bound bound : Bound.of(scene)) {
            for (int number : bound.outside()) {
                refused(scene, bound.name() + " " + number, "IllegalArgumentException",
                        x -> bound.call().with(x, number));
            }
        }
    }

    private static void twoNumbersOutOfBounds(Scene scene) {
        int z = scene.zones();
        String argument = "IllegalArgumentException";
        refused(scene, "wall, all wrong", argument, x -> x.wall(-1, z, 101));
        refused(scene, "wall, zones wrong", argument, x -> x.wall(z, -1, 5));
        refused(scene, "wall, one zone and share wrong", argument, x -> x.wall(0, 0, -1));
        refused(scene, "value, both wrong", argument, x -> x.value(z, 1000001));
        refused(scene, "fails, all wrong, on", argument, x -> x.fails(16, -1, 1000, true));
        refused(scene, "fails, all wrong, off", argument, x -> x.fails(-1, z, -1, false));
        refused(scene, "run, both wrong", argument, x -> x.run(17, 1, 0));
        refused(scene, "book, both wrong", argument, x -> x.book(-2, 4));
        refused(scene, "foretold, both wrong", argument, x -> x.foretold(z, 51));
    }

    private static void oneZoneAsTwo(Scene scene) {
        for (int share : new int[] {0, 1, 100}) {
            int last = scene.zones() - 1;
            refused(scene, "wall(0, 0, " + share + ")", "IllegalArgumentException", x -> x.wall(0, 0, share));
            refused(scene, "wall of the last, " + share, "IllegalArgumentException", x -> x.wall(last, last, share));
        }
    }

    private static void noRoom(Scene scene) {
        if (scene.failuresFull()) {
            refused(scene, "the 201st, near others", "IllegalStateException", x -> x.fails(15, 0, 999, true));
            refused(scene, "the 201st, the least free", "IllegalStateException", x -> x.fails(0, 0, 4, true));
            refused(scene, "the 201st, the greatest", "IllegalStateException", x -> x.fails(15, 2, 999, true));
        }
        if (scene.jobsFull()) {
            refused(scene, "the 101st job", "IllegalStateException", x -> x.job(0));
            refused(scene, "the 101st job of the greatest rank", "IllegalStateException", x -> x.job(100));
        }
    }

    /** Promise 13: "Nothing changes"; and the other calls that tell are said to do nothing else. */
    private static void callsThatOnlyTell(Scene scene) {
        int last = scene.zones() - 1;
        unchanged(scene, "foretold(0, 0)", x -> x.foretold(0, 0));
        unchanged(scene, "foretold(0, 1)", x -> x.foretold(0, 1));
        unchanged(scene, "foretold(last, 50)", x -> x.foretold(last, 50));
        unchanged(scene, "colours()", ZoneThreads::colours);
        unchanged(scene, "colour(last)", x -> x.colour(last));
        unchanged(scene, "at(last)", x -> x.at(last));
        unchanged(scene, "sum()", ZoneThreads::sum);
        unchanged(scene, "book(NONE, 3)", x -> x.book(-1, 3));
        unchanged(scene, "did(0)", x -> x.did(0));
        unchanged(scene, "did(15)", x -> x.did(15));
        if (scene.lines() > 0) {
            unchanged(scene, "book(0, 0)", x -> x.book(0, 0));
        }
        if (scene.came() > 0) {
            unchanged(scene, "age(0)", x -> x.age(0));
            unchanged(scene, "age of the last", x -> x.age(scene.came() - 1));
        } else {
            unchanged(scene, "take() of none", ZoneThreads::take);
        }
        unchanged(scene, "what is not told, off", x -> x.fails(9, 0, 601, false));
    }

    /** "Of several exceptions the one named first is thrown": illegal argument before illegal state. */
    private static void argumentsBeforeStates() {
        for (Scene scene : Scene.all()) {
            if (scene.failuresFull()) {
                ZoneThreads x = scene.made();
                Check.state("201st, nothing else wrong", () -> x.fails(9, 0, 601, true));
                Check.argument("201st, worker -1", () -> x.fails(-1, 0, 601, true));
                Check.argument("201st, worker 16", () -> x.fails(16, 0, 601, true));
                Check.argument("201st, zone -1", () -> x.fails(9, -1, 601, true));
                Check.argument("201st, zone Z", () -> x.fails(9, 3, 601, true));
                Check.argument("201st, hour -1", () -> x.fails(9, 0, -1, true));
                Check.argument("201st, hour 1000", () -> x.fails(9, 0, 1000, true));
            }
            if (scene.jobsFull()) {
                ZoneThreads x = scene.made();
                Check.state("101st, nothing else wrong", () -> x.job(100));
                Check.argument("101st, rank -1", () -> x.job(-1));
                Check.argument("101st, rank 101", () -> x.job(101));
                Check.argument("101st, the least rank", () -> x.job(Integer.MIN_VALUE));
                Check.argument("101st, the greatest rank", () -> x.job(Integer.MAX_VALUE));
            }
        }
    }

    interface OneCall {
        Object on(ZoneThreads x);
    }

    private static void refused(Scene scene, String what, String exception, OneCall call) {
        Check.due(scene.name() + ": " + what, "throws." + exception, () -> call.on(scene.made()));
        unchanged(scene, what, call);
    }

    private static void unchanged(Scene scene, String what, OneCall call) {
        for (Probe probe : PROBES) {
            ZoneThreads asked = scene.made();
            Check.heard(() -> call.on(asked));
            Check.due(scene.name() + ", after " + what, told(probe, scene.made(), scene), () -> told(probe, asked, scene));
        }
    }

    private static List<String> told(Probe probe, ZoneThreads x, Scene scene) {
        List<String> answers = new ArrayList<>();
        probe.tell(x, scene, answers);
        return answers;
    }

    private static void hear(List<String> answers, String what, Check.Call call) {
        answers.add(what + " " + Check.heard(call));
    }

    private static void zonesNow(ZoneThreads x, Scene scene, List<String> answers) {
        hear(answers, "colours", x::colours);
        hear(answers, "sum", x::sum);
        for (int zone = 0; zone < scene.zones(); zone++) {
            int z = zone;
            hear(answers, "colour", () -> x.colour(z));
            hear(answers, "at", () -> x.at(z));
            hear(answers, "foretold 1", () -> x.foretold(z, 1));
            hear(answers, "foretold 50", () -> x.foretold(z, 50));
        }
    }

    private static void bookNow(ZoneThreads x, Scene scene, List<String> answers) {
        hear(answers, "lines", () -> x.book(-1, 0));
        for (int k = 0; k <= scene.lines(); k++) {
            for (int what = 0; what < 4; what++) {
                int line = k;
                int w = what;
                hear(answers, "book " + k, () -> x.book(line, w));
            }
        }
    }

    private static void crewNow(ZoneThreads x, Scene scene, List<String> answers) {
        for (int worker = 0; worker < 16; worker++) {
            int w = worker;
            hear(answers, "did", () -> x.did(w));
        }
    }

    private static void wallsNow(ZoneThreads x, Scene scene, List<String> answers) {
        for (int zone = 1; zone < scene.zones(); zone++) {
            for (int other = 0; other < zone; other++) {
                int z = zone;
                int o = other;
                hear(answers, "wall", () -> x.wall(z, o, 0));
            }
        }
    }

    private static void failuresNow(ZoneThreads x, Scene scene, List<String> answers, int... hours) {
        for (int hour : hours) {
            for (int worker = 0; worker < 16; worker++) {
                for (int zone = 0; zone < Math.min(3, scene.zones()); zone++) {
                    int w = worker;
                    int z = zone;
                    hear(answers, "fails", () -> x.fails(w, z, hour, false));
                }
            }
        }
    }

    private static void roomForFailures(ZoneThreads x, Scene scene, List<String> answers) {
        for (int n = 0; n < 201; n++) {
            int hour = 300 + n;
            hear(answers, "fails, another", () -> x.fails(4, 0, hour, true));
        }
    }

    private static void stopNow(ZoneThreads x, Scene scene, List<String> answers) {
        hear(answers, "stops", () -> x.stops(-1));
    }

    private static void agesNow(ZoneThreads x, Scene scene, List<String> answers) {
        for (int job = 0; job <= scene.came() + 1; job++) {
            int number = job;
            hear(answers, "age", () -> x.age(number));
        }
    }

    private static void takenNext(ZoneThreads x, Scene scene, List<String> answers) {
        for (int n = 0; n < 102; n++) {
            hear(answers, "take", x::take);
        }
    }

    private static void roomForJobs(ZoneThreads x, Scene scene, List<String> answers) {
        for (int n = 0; n < 101; n++) {
            hear(answers, "job", () -> x.job(1));
        }
    }

    private static void nextRun(ZoneThreads x, Scene scene, List<String> answers) {
        hear(answers, "run", () -> x.run(3, 7, 2));
        hear(answers, "lines", () -> x.book(-1, 0));
        for (int k = 0; k < 50; k++) {
            int line = k;
            hear(answers, "worker", () -> x.book(line, 0));
            hear(answers, "zone", () -> x.book(line, 1));
        }
        for (int zone = 0; zone < scene.zones(); zone++) {
            int z = zone;
            hear(answers, "at", () -> x.at(z));
        }
    }
}
