import java.util.List;

/**
 * A state that an object can come to, made anew as often as one likes, with what bounds its numbers:
 * how many zones it has, how many lines its book, and how many jobs came.
 */
record Scene(String name, int zones, int lines, int came, boolean failuresFull, boolean jobsFull, Steps steps) {
    interface Steps {
        void on(ZoneThreads x);
    }

    static List<Scene> all() {
        return List.of(
                new Scene("one new zone", 1, 0, 0, false, false, x -> { }),
                new Scene("24 new zones", 24, 0, 0, false, false, x -> { }),
                new Scene("in use", 3, 10, 3, false, false, Scene::inUse),
                new Scene("undone", 2, 4, 1, false, false, Scene::undone),
                new Scene("200 failures", 3, 16, 0, true, false, Scene::fullOfFailures),
                new Scene("100 jobs", 2, 2, 102, false, true, Scene::fullOfJobs));
    }

    ZoneThreads made() {
        ZoneThreads x = new ZoneThreads(zones);
        steps.on(x);
        return x;
    }

    private static void inUse(ZoneThreads x) {
        x.value(0, 1000);
        x.value(1, -500);
        x.value(2, 300000);
        x.wall(0, 1, 100);
        x.wall(1, 2, 50);
        x.fails(2, 0, 0, true);
        x.fails(1, 1, 3, true);
        x.stops(2);
        x.run(3, 1, 5);
        x.job(10);
        x.job(20);
        x.job(5);
        x.take();
    }

    private static void undone(ZoneThreads x) {
        x.value(0, 1000);
        x.wall(0, 1, 100);
        x.fails(0, 1, 1, true);
        x.run(1, 8, 50);
        x.job(100);
        x.take();
    }

    private static void fullOfFailures(ZoneThreads x) {
        x.value(1, 70000);
        x.wall(1, 2, 33);
        for (int n = 0; n < 200; n++) {
            x.fails(n % 16, n / 16 % 3, n < 192 ? n / 48 : 999, true);
        }
        x.run(16, 5, 3);
    }

    private static void fullOfJobs(ZoneThreads x) {
        x.value(1, 1000);
        x.wall(0, 1, 10);
        x.stops(0);
        x.run(2, 9, 3);
        for (int n = 0; n < 100; n++) {
            x.job(n % 7);
        }
        x.take();
        x.take();
        x.job(0);
        x.job(100);
    }
}
