import java.util.ArrayList;
import java.util.Arrays;
import java.util.HashMap;
import java.util.List;
import java.util.Map;
import java.util.TreeMap;
import java.util.TreeSet;

/** The document's words once more, with the library's collections and no thought of cost. */
final class PlainModel {
    private static final long TOP = 1000000;

    private final int zones;
    private final Map<Integer, Long> values = new TreeMap<>();
    private final Map<List<Integer>, Integer> walls = new HashMap<>();
    private final TreeSet<String> failures = new TreeSet<>();
    private int stop = -1;
    private List<int[]> book = new ArrayList<>();
    private Map<Integer, Integer> did = new HashMap<>();
    private final List<int[]> waiting = new ArrayList<>();
    private int came = 0;

    PlainModel(int asked) {
        zones = asked < 1 ? 1 : asked > 24 ? 24 : asked;
        for (int zone = 0; zone < zones; zone++) {
            values.put(zone, 0L);
        }
    }

    private static void need(boolean legal) {
        if (!legal) {
            throw new IllegalArgumentException();
        }
    }

    private static void needState(boolean legal) {
        if (!legal) {
            throw new IllegalStateException();
        }
    }

    private boolean isZone(int zone) {
        return values.containsKey(zone);
    }

    private static List<Integer> pair(int zone, int other) {
        return List.of(Math.min(zone, other), Math.max(zone, other));
    }

    private int share(int zone, int other) {
        return walls.getOrDefault(pair(zone, other), 0);
    }

    int wall(int zone, int other, int share) {
        need(isZone(zone) && isZone(other) && zone != other && share >= 0 && share <= 100);
        int before = share(zone, other);
        walls.put(pair(zone, other), share);
        return before;
    }

    int value(int zone, int v) {
        need(isZone(zone) && Math.abs((long) v) <= TOP);
        return Math.toIntExact(values.put(zone, (long) v));
    }

    boolean fails(int worker, int zone, int hour, boolean on) {
        need(worker >= 0 && worker <= 15 && isZone(zone) && hour >= 0 && hour <= 999);
        String told = worker + " " + zone + " " + hour;
        boolean before = failures.contains(told);
        if (on) {
            needState(before || failures.size() < 200);
            failures.add(told);
        } else {
            failures.remove(told);
        }
        return before;
    }

    int stops(int hour) {
        need(hour >= -1 && hour <= 999);
        int before = stop;
        stop = hour;
        return before;
    }

    private Map<Integer, Integer> painted() {
        Map<Integer, Integer> colours = new TreeMap<>();
        for (int zone = 0; zone < zones; zone++) {
            TreeSet<Integer> free = new TreeSet<>();
            for (int colour = 0; colour < 30; colour++) {
                free.add(colour);
            }
            for (int lesser : colours.keySet()) {
                if (share(zone, lesser) != 0) {
                    free.remove(colours.get(lesser));
                }
            }
            colours.put(zone, free.first());
        }
        return colours;
    }

    private static long kept(long number) {
        return number > TOP ? TOP : number < -TOP ? -TOP : number;
    }

    private void doZone(Map<Integer, Long> row, int zone) {
        long v = row.get(zone);
        long flow = 0;
        for (int other : row.keySet()) {
            if (other != zone) {
                flow += share(zone, other) * (row.get(other) - v);
            }
        }
        long quotient = flow < 0 ? -(-flow / 1000) : flow / 1000;
        row.put(zone, kept(v + quotient));
    }

    int run(int workers, int seed, int hours) {
        need(workers >= 1 && workers <= 16 && hours >= 1 && hours <= 50);
        book = new ArrayList<>();
        did = new HashMap<>();
        TreeSet<Integer> crew = new TreeSet<>();
        for (int worker = 0; worker < workers; worker++) {
            crew.add(worker);
            did.put(worker, 0);
        }
        long h = seed & 0xffffffffL;
        Map<Integer, Integer> colours = painted();
        for (int hour = 0; hour < hours; hour++) {
            Map<Integer, Long> atBeginning = new TreeMap<>(values);
            for (int stage = 0; stage < colours(); stage++) {
                TreeSet<Integer> open = new TreeSet<>();
                for (int zone = 0; zone < zones; zone++) {
                    if (colours.get(zone) == stage) {
                        open.add(zone);
                    }
                }
                while (!open.isEmpty()) {
                    if (crew.isEmpty()) {
                        values.putAll(atBeginning);
                        return hour;
                    }
                    h = (h * 1103515245L + 12345L) & 0xffffffffL;
                    int worker = new ArrayList<>(crew).get((int) (h / 65536 % crew.size()));
                    int zone = open.first();
                    boolean failed = failures.contains(worker + " " + zone + " " + hour);
                    book.add(new int[] {worker, zone, hour, failed ? 1 : 0});
                    if (failed) {
                        crew.remove(worker);
                        did.remove(worker);
                    } else {
                        doZone(values, zone);
                        did.merge(worker, 1, Integer::sum);
                        open.remove(zone);
                    }
                }
            }
            if (hour == stop) {
                return hour + 1;
            }
        }
        return hours;
    }

    int colours() {
        return new TreeSet<>(painted().values()).size();
    }

    int colour(int zone) {
        need(isZone(zone));
        return painted().get(zone);
    }

    int at(int zone) {
        need(isZone(zone));
        return Math.toIntExact(values.get(zone));
    }

    private static long treeSum(Long[] row) {
        if (row.length == 1) {
            return row[0];
        }
        int half = row.length - row.length / 2;
        return kept(treeSum(Arrays.copyOfRange(row, 0, half)) + treeSum(Arrays.copyOfRange(row, half, row.length)));
    }

    int sum() {
        return Math.toIntExact(treeSum(values.values().toArray(new Long[0])));
    }

    int book(int k, int what) {
        need(what >= 0 && what <= 3 && k >= -1 && k < book.size() && k < 2000);
        return k == -1 ? Math.min(2000, book.size()) : book.get(k)[what];
    }

    int did(int worker) {
        need(worker >= 0 && worker <= 15);
        return did.getOrDefault(worker, -1);
    }

    int foretold(int zone, int hours) {
        need(isZone(zone) && hours >= 0 && hours <= 50);
        Map<Integer, Long> row = new TreeMap<>(values);
        Map<Integer, Integer> colours = painted();
        for (int hour = 0; hour < hours; hour++) {
            for (int stage = 0; stage < zones; stage++) {
                // From the last to the first: within a colour the order must not matter.
                for (int each = zones - 1; each >= 0; each--) {
                    if (colours.get(each) == stage) {
                        doZone(row, each);
                    }
                }
            }
        }
        return Math.toIntExact(row.get(zone));
    }

    int job(int rank) {
        need(rank >= 0 && rank <= 100);
        needState(waiting.size() < 100);
        waiting.add(new int[] {came, rank, 0});
        return came++;
    }

    int take() {
        if (waiting.isEmpty()) {
            return -1;
        }
        List<int[]> sorted = new ArrayList<>(waiting);
        sorted.sort((a, b) -> a[1] + a[2] != b[1] + b[2] ? (b[1] + b[2]) - (a[1] + a[2]) : a[0] - b[0]);
        int[] first = sorted.get(0);
        waiting.remove(first);
        for (int[] other : waiting) {
            other[2]++;
        }
        return first[0];
    }

    int age(int job) {
        need(job >= 0 && job < came);
        for (int[] one : waiting) {
            if (one[0] == job) {
                return one[2];
            }
        }
        return -1;
    }
}
