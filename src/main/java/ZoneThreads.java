/**
 * Zones that change hour by hour, shared out to workers stage by stage; workers fail and others do
 * again what they had begun; sums are taken in a fixed tree; jobs wait by ranks that grow.
 */
public final class ZoneThreads {
    /** There is none. */
    public static final int NONE = -1;

    private static final int MOST_ZONES = 24;
    private static final int MOST_VALUE = 1000000;
    private static final int MOST_SHARE = 100;
    private static final int SHARE_UNIT = 1000;
    private static final int MOST_WORKERS = 16;
    private static final int MOST_HOURS = 50;
    private static final int LAST_HOUR = 999;
    private static final int MOST_FAILURES = 200;
    private static final int MOST_LINES = 2000;
    private static final int LAST_COLUMN = 3;
    private static final int MOST_RANK = 100;
    private static final int MOST_WAITING = 100;

    // Halving 24 zones ends after 5 levels; the limit only makes the recursion's end plain to see.
    private static final int MOST_HALVINGS = 8;

    private final Zones zones;
    private final Failures failures;
    private final Crew crew;
    private final Book lines;
    private final Jobs jobs;
    private int stopHour;

    public ZoneThreads(int zones) {
        this.zones = new Zones(Math.max(1, Math.min(MOST_ZONES, zones)));
        this.failures = new Failures();
        this.crew = new Crew();
        this.lines = new Book();
        this.jobs = new Jobs();
        this.stopHour = NONE;
    }

    public int wall(int zone, int other, int share) throws IllegalArgumentException {
        checkZone(zone);
        checkZone(other);
        checkWithin(share, 0, MOST_SHARE);
        if (zone == other) {
            throw new IllegalArgumentException("a wall needs two zones");
        }
        int before = zones.shareBetween(zone, other);
        zones.build(zone, other, share);
        return before;
    }

    public int value(int zone, int v) throws IllegalArgumentException {
        checkZone(zone);
        checkWithin(v, -MOST_VALUE, MOST_VALUE);
        int before = zones.valueOf(zone);
        zones.put(zone, v);
        return before;
    }

    public boolean fails(int worker, int zone, int hour, boolean on)
            throws IllegalArgumentException, IllegalStateException {
        checkWithin(worker, 0, MOST_WORKERS - 1);
        checkZone(zone);
        checkWithin(hour, 0, LAST_HOUR);
        boolean before = failures.has(worker, zone, hour);
        if (on && !before) {
            if (failures.isFull()) {
                throw new IllegalStateException("200 failures are told");
            }
            failures.add(worker, zone, hour);
        }
        if (!on && before) {
            failures.remove(worker, zone, hour);
        }
        return before;
    }

    public int stops(int hour) throws IllegalArgumentException {
        checkWithin(hour, NONE, LAST_HOUR);
        int before = stopHour;
        stopHour = hour;
        return before;
    }

    public int run(int workers, int seed, int hours) throws IllegalArgumentException {
        checkWithin(workers, 1, MOST_WORKERS);
        checkWithin(hours, 1, MOST_HOURS);
        crew.gather(workers, seed);
        lines.clear();
        for (int hour = 0; hour < hours; hour++) {
            if (!hourIsDone(hour)) {
                return hour;
            }
            if (hour == stopHour) {
                return hour + 1;
            }
        }
        return hours;
    }

    // ---- what is told

    public int colours() {
        return zones.colourCount();
    }

    public int colour(int zone) throws IllegalArgumentException {
        checkZone(zone);
        return zones.colourOf(zone);
    }

    public int at(int zone) throws IllegalArgumentException {
        checkZone(zone);
        return zones.valueOf(zone);
    }

    public int sum() {
        return zones.total();
    }

    public int book(int k, int what) throws IllegalArgumentException {
        checkWithin(what, 0, LAST_COLUMN);
        checkWithin(k, NONE, lines.size() - 1);
        return k == NONE ? lines.size() : lines.read(k, what);
    }

    public int did(int worker) throws IllegalArgumentException {
        checkWithin(worker, 0, MOST_WORKERS - 1);
        return crew.doneBy(worker);
    }

    public int foretold(int zone, int hours) throws IllegalArgumentException {
        checkZone(zone);
        checkWithin(hours, 0, MOST_HOURS);
        return zones.valueAfter(zone, hours);
    }

    // ---- jobs

    public int job(int rank) throws IllegalArgumentException, IllegalStateException {
        checkWithin(rank, 0, MOST_RANK);
        if (jobs.isFull()) {
            throw new IllegalStateException("100 jobs wait");
        }
        return jobs.add(rank);
    }

    public int take() {
        return jobs.takeFirst();
    }

    public int age(int job) throws IllegalArgumentException {
        checkWithin(job, 0, jobs.cameInAll() - 1);
        return jobs.ageOf(job);
    }

    private void checkZone(int zone) {
        checkWithin(zone, 0, zones.size() - 1);
    }

    private static void checkWithin(int number, int least, int most) {
        if (number < least || number > most) {
            throw new IllegalArgumentException("a number is out of its bounds");
        }
    }

    private static int keptWithin(long number) {
        return (int) Math.max(-MOST_VALUE, Math.min(MOST_VALUE, number));
    }

    private boolean hourIsDone(int hour) {
        zones.remember();
        for (int colour = 0; colour < zones.colourCount(); colour++) {
            if (!stageIsDone(colour, hour)) {
                zones.recall();
                return false;
            }
        }
        return true;
    }

    private boolean stageIsDone(int colour, int hour) {
        for (int zone = 0; zone < zones.size(); zone++) {
            if (zones.colourOf(zone) == colour && !zoneIsDone(zone, hour)) {
                return false;
            }
        }
        return true;
    }

    /** A failed zone stays the least that is not done, so the next worker drawn takes it again. */
    private boolean zoneIsDone(int zone, int hour) {
        for (int tries = 0; tries < MOST_WORKERS; tries++) {
            int worker = crew.draw();
            if (worker == NONE) {
                return false;
            }
            boolean failed = failures.has(worker, zone, hour);
            lines.add(worker, zone, hour, failed);
            if (!failed) {
                zones.change(zone);
                crew.credit(worker);
                return true;
            }
            crew.lose(worker);
        }
        return false;
    }

    /** The zones' values, the walls between them and the colours that follow from the walls. */
    private static final class Zones {
        private final int size;
        private final int[] values;
        private final int[] remembered;
        private final int[] trial;
        private final int[] shares;
        private final int[] colourOf;
        private int colourCount;

        Zones(int size) {
            this.size = size;
            this.values = new int[size];
            this.remembered = new int[size];
            this.trial = new int[size];
            this.shares = new int[size * size];
            this.colourOf = new int[size];
            this.colourCount = 1;
        }

        int size() {
            return size;
        }

        int valueOf(int zone) {
            return values[zone];
        }

        void put(int zone, int v) {
            values[zone] = v;
        }

        int shareBetween(int zone, int other) {
            return shares[zone * size + other];
        }

        void build(int zone, int other, int share) {
            shares[zone * size + other] = share;
            shares[other * size + zone] = share;
            paint();
        }

        int colourCount() {
            return colourCount;
        }

        int colourOf(int zone) {
            return colourOf[zone];
        }

        void remember() {
            System.arraycopy(values, 0, remembered, 0, size);
        }

        void recall() {
            System.arraycopy(remembered, 0, values, 0, size);
        }

        void change(int zone) {
            values[zone] = changed(values, zone);
        }

        int total() {
            return treeSum(values, 0, size, 0);
        }

        int valueAfter(int zone, int hours) {
            System.arraycopy(values, 0, trial, 0, size);
            for (int hour = 0; hour < hours; hour++) {
                for (int colour = 0; colour < colourCount; colour++) {
                    tryStage(colour);
                }
            }
            return trial[zone];
        }

        private void tryStage(int colour) {
            for (int zone = 0; zone < size; zone++) {
                if (colourOf[zone] == colour) {
                    trial[zone] = changed(trial, zone);
                }
            }
        }

        private void paint() {
            colourCount = 0;
            for (int zone = 0; zone < size; zone++) {
                colourOf[zone] = leastFreeColour(zone);
                colourCount = Math.max(colourCount, colourOf[zone] + 1);
            }
        }

        private int leastFreeColour(int zone) {
            int used = 0;
            for (int other = 0; other < zone; other++) {
                if (shareBetween(zone, other) > 0) {
                    used |= 1 << colourOf[other];
                }
            }
            // So many lesser zones can't use up one colour more than they are.
            for (int colour = 0; colour < zone; colour++) {
                if ((used >> colour & 1) == 0) {
                    return colour;
                }
            }
            return zone;
        }

        private int changed(int[] row, int zone) {
            int v = row[zone];
            // 23 walls of share 100 between values 2000000 apart are more than an int holds.
            long flow = 0;
            for (int other = 0; other < size; other++) {
                flow += (long) shareBetween(zone, other) * (row[other] - v);
            }
            return keptWithin(v + flow / SHARE_UNIT);
        }

        private static int treeSum(int[] row, int from, int count, int depth) {
            if (count <= 1 || depth > MOST_HALVINGS) {
                return row[from];
            }
            int half = (count + 1) / 2;
            int first = treeSum(row, from, half, depth + 1);
            int others = treeSum(row, from + half, count - half, depth + 1);
            return keptWithin(first + others);
        }
    }

    /** The told failures as growing keys, so that each taking of a run finds its own by halving. */
    private static final class Failures {
        private final int[] keys;
        private int count;

        Failures() {
            this.keys = new int[MOST_FAILURES];
            this.count = 0;
        }

        boolean isFull() {
            return count >= MOST_FAILURES;
        }

        boolean has(int worker, int zone, int hour) {
            int key = keyOf(worker, zone, hour);
            return stands(placeOf(key), key);
        }

        void add(int worker, int zone, int hour) {
            if (isFull()) {
                return;
            }
            int key = keyOf(worker, zone, hour);
            int place = placeOf(key);
            System.arraycopy(keys, place, keys, place + 1, count - place);
            keys[place] = key;
            count++;
        }

        void remove(int worker, int zone, int hour) {
            int key = keyOf(worker, zone, hour);
            int place = placeOf(key);
            if (stands(place, key)) {
                System.arraycopy(keys, place + 1, keys, place, count - place - 1);
                count--;
            }
        }

        private static int keyOf(int worker, int zone, int hour) {
            return (hour * MOST_ZONES + zone) * MOST_WORKERS + worker;
        }

        private boolean stands(int place, int key) {
            return place < count && keys[place] == key;
        }

        /** How many keys are less. */
        private int placeOf(int key) {
            int low = 0;
            int high = count;
            for (int halvings = 0; halvings < MOST_FAILURES && low < high; halvings++) {
                int middle = (low + high) / 2;
                if (keys[middle] < key) {
                    low = middle + 1;
                } else {
                    high = middle;
                }
            }
            return low;
        }
    }

    /** What each worker did in the latest run; NONE marks those that are gone or were not in it. */
    private static final class Crew {
        private final int[] done;
        private int left;
        private int chance;

        Crew() {
            this.done = new int[MOST_WORKERS];
            for (int worker = 0; worker < MOST_WORKERS; worker++) {
                this.done[worker] = NONE;
            }
            this.left = 0;
            this.chance = 0;
        }

        void gather(int workers, int seed) {
            for (int worker = 0; worker < MOST_WORKERS; worker++) {
                done[worker] = worker < workers ? 0 : NONE;
            }
            left = workers;
            chance = seed;
        }

        /** The next taker; NONE if all are gone. */
        int draw() {
            if (left <= 0) {
                return NONE;
            }
            chance = chance * 1103515245 + 12345;
            int before = (chance >>> 16) % left;
            for (int worker = 0; worker < MOST_WORKERS; worker++) {
                if (done[worker] != NONE) {
                    if (before == 0) {
                        return worker;
                    }
                    before--;
                }
            }
            return NONE;
        }

        void credit(int worker) {
            done[worker]++;
        }

        void lose(int worker) {
            done[worker] = NONE;
            left--;
        }

        int doneBy(int worker) {
            return done[worker];
        }
    }

    /** The latest run's book, each line packed in one number to keep a new object small. */
    private static final class Book {
        private static final int ZONE_SHIFT = 4;
        private static final int HOUR_SHIFT = 9;
        private static final int FAILED_SHIFT = 19;

        private final int[] lines;
        private int size;

        Book() {
            this.lines = new int[MOST_LINES];
            this.size = 0;
        }

        void clear() {
            size = 0;
        }

        int size() {
            return size;
        }

        void add(int worker, int zone, int hour, boolean failed) {
            if (size < MOST_LINES) {
                lines[size] = worker | zone << ZONE_SHIFT | hour << HOUR_SHIFT
                        | (failed ? 1 : 0) << FAILED_SHIFT;
                size++;
            }
        }

        int read(int line, int column) {
            int packed = lines[line];
            switch (column) {
                case 0:
                    return packed & 15;
                case 1:
                    return packed >> ZONE_SHIFT & 31;
                case 2:
                    return packed >> HOUR_SHIFT & 1023;
                default:
                    return packed >> FAILED_SHIFT & 1;
            }
        }
    }

    /** The jobs that wait, in the order in which they came. */
    private static final class Jobs {
        private final int[] numbers;
        private final int[] ranks;
        private final int[] ages;
        private int size;
        private int cameInAll;

        Jobs() {
            this.numbers = new int[MOST_WAITING];
            this.ranks = new int[MOST_WAITING];
            this.ages = new int[MOST_WAITING];
            this.size = 0;
            this.cameInAll = 0;
        }

        boolean isFull() {
            return size >= MOST_WAITING;
        }

        int cameInAll() {
            return cameInAll;
        }

        int add(int rank) {
            if (isFull()) {
                return NONE;
            }
            int number = cameInAll;
            numbers[size] = number;
            ranks[size] = rank;
            ages[size] = 0;
            size++;
            cameInAll++;
            return number;
        }

        int takeFirst() {
            if (size == 0) {
                return NONE;
            }
            int place = foremost();
            int number = numbers[place];
            drop(place);
            for (int other = 0; other < size; other++) {
                ages[other]++;
            }
            return number;
        }

        int ageOf(int number) {
            for (int place = 0; place < size; place++) {
                if (numbers[place] == number) {
                    return ages[place];
                }
            }
            return NONE;
        }

        private int foremost() {
            int best = 0;
            for (int place = 1; place < size; place++) {
                if (ranks[place] + ages[place] > ranks[best] + ages[best]) {
                    best = place;
                }
            }
            return best;
        }

        private void drop(int place) {
            int behind = size - place - 1;
            System.arraycopy(numbers, place + 1, numbers, place, behind);
            System.arraycopy(ranks, place + 1, ranks, place, behind);
            System.arraycopy(ages, place + 1, ages, place, behind);
            size--;
        }
    }
}
