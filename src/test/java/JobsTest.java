/** Promises 14 to 16 in ordinary use: jobs that come, are taken and grow old. */
public final class JobsTest {
    public static void main(String[] args) {
        jobsAreNumbered();
        theGreatestRankIsTaken();
        theFirstOfSeveralIsTaken();
        agesCountWithRanks();
        agesGrow();
        Check.end();
    }

    private static void jobsAreNumbered() {
        ZoneThreads x = new ZoneThreads(1);
        Check.due("job: first", 0, () -> x.job(0));
        Check.due("job: second", 1, () -> x.job(100));
        x.take();
        x.take();
        Check.due("job: numbers are not used again", 2, () -> x.job(50));
    }

    private static void theGreatestRankIsTaken() {
        ZoneThreads x = new ZoneThreads(1);
        x.job(3);
        x.job(90);
        x.job(40);
        Check.due("greatest", 1, x::take);
        Check.due("next", 2, x::take);
        Check.due("last", 0, x::take);
        Check.due("none", -1, x::take);
    }

    private static void theFirstOfSeveralIsTaken() {
        ZoneThreads x = new ZoneThreads(1);
        x.job(1);
        x.job(5);
        x.job(5);
        x.job(5);
        Check.due("first of the fives", 1, x::take);
        Check.due("second of the fives", 2, x::take);
        // Job 0 has 1 + 2, a new job 3: the older one came first. Job 3 has 5 + 2.
        x.job(3);
        Check.due("third of the fives", 3, x::take);
        Check.due("as much together: the first that came", 0, x::take);
        Check.due("the new one", 4, x::take);
    }

    private static void agesCountWithRanks() {
        ZoneThreads x = new ZoneThreads(1);
        x.job(0);
        x.job(1);
        Check.due("rank 1 before 0", 1, x::take);
        x.job(2);
        Check.due("rank 2 before 0 and 1", 2, x::take);
        x.job(1);
        Check.due("0 and 2 before 1", 0, x::take);
        Check.due("then 1", 3, x::take);
    }

    private static void agesGrow() {
        ZoneThreads x = new ZoneThreads(1);
        Check.due("take of none", -1, x::take);
        x.job(0);
        Check.due("take of none ages nobody", 0, () -> x.age(0));
        x.job(50);
        x.job(60);
        x.take();
        Check.due("age(0) after one", 1, () -> x.age(0));
        Check.due("age(1) after one", 1, () -> x.age(1));
        Check.due("age of the taken", -1, () -> x.age(2));
        x.job(0);
        Check.due("age of the new", 0, () -> x.age(3));
        x.take();
        Check.due("age(0) after two", 2, () -> x.age(0));
        Check.due("age(1), taken", -1, () -> x.age(1));
        Check.due("age(3) after one", 1, () -> x.age(3));
        x.run(1, 1, 1);
        Check.due("a run ages nobody", 2, () -> x.age(0));
    }
}
