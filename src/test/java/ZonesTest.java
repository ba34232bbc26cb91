/** Promises 1 to 3 and 7 to 10: new objects, walls, values, colours and the sum. */
public final class ZonesTest {
    public static void main(String[] args) {
        newObjectBounds();
        newObjectIsEmpty();
        wallTellsWhatItWas();
        wallRefuses();
        valueTellsWhatItWas();
        valueRefuses();
        coloursAreTheLeastFree();
        coloursFollowTheWalls();
        coloursUpToAllZones();
        colourAndAtRefuse();
        sumHalvesRoundedUp();
        sumIsKeptWithin();
        Check.end();
    }

    private static void zoneCount(int asked, int count) {
        ZoneThreads x = new ZoneThreads(asked);
        Check.due(asked + " zones: at of the last", 0, () -> x.at(count - 1));
        Check.argument(asked + " zones: at behind the last", () -> x.at(count));
    }

    private static void newObjectBounds() {
        zoneCount(Integer.MIN_VALUE, 1);
        zoneCount(-1, 1);
        zoneCount(0, 1);
        zoneCount(1, 1);
        zoneCount(2, 2);
        zoneCount(23, 23);
        zoneCount(24, 24);
        zoneCount(25, 24);
        zoneCount(Integer.MAX_VALUE, 24);
    }

    private static void newObjectIsEmpty() {
        ZoneThreads x = new ZoneThreads(24);
        Check.due("NONE", -1, () -> ZoneThreads.NONE);
        Check.due("new: colours", 1, x::colours);
        Check.due("new: sum", 0, x::sum);
        Check.due("new: book's lines", 0, () -> x.book(-1, 0));
        Check.argument("new: book's first line", () -> x.book(0, 0));
        Check.due("new: take", -1, x::take);
        Check.argument("new: age(0)", () -> x.age(0));
        Check.due("new: stops", -1, () -> x.stops(-1));
        for (int worker = 0; worker < 16; worker++) {
            int w = worker;
            Check.due("new: did(" + w + ")", -1, () -> x.did(w));
        }
        for (int zone = 0; zone < 24; zone++) {
            int z = zone;
            Check.due("new: at(" + z + ")", 0, () -> x.at(z));
            Check.due("new: colour(" + z + ")", 0, () -> x.colour(z));
            if (z > 0) {
                Check.due("new: wall to " + z, 0, () -> x.wall(0, z, 0));
            }
        }
        ZoneThreads one = new ZoneThreads(1);
        Check.due("one zone: colours", 1, one::colours);
        Check.due("one zone: run", 50, () -> one.run(1, 0, 50));
        Check.due("one zone: sum", 0, one::sum);
    }

    private static void wallTellsWhatItWas() {
        ZoneThreads x = new ZoneThreads(4);
        Check.due("wall: first", 0, () -> x.wall(0, 3, 100));
        Check.due("wall: from the other side", 100, () -> x.wall(3, 0, 1));
        Check.due("wall: taken away", 1, () -> x.wall(0, 3, 0));
        Check.due("wall: built again", 0, () -> x.wall(3, 0, 7));
        Check.due("wall: another", 0, () -> x.wall(1, 2, 9));
        Check.due("wall: the same share", 7, () -> x.wall(0, 3, 7));
        Check.due("wall: unharmed", 7, () -> x.wall(3, 0, 7));
        Check.due("wall: the other, too", 9, () -> x.wall(2, 1, 9));
        Check.due("wall: 0 and 1 have none", 0, () -> x.wall(0, 1, 0));
    }

    private static void wallRefuses() {
        ZoneThreads x = new ZoneThreads(3);
        x.wall(0, 1, 50);
        Check.argument("wall(-1, 1, 5)", () -> x.wall(-1, 1, 5));
        Check.argument("wall(3, 1, 5)", () -> x.wall(3, 1, 5));
        Check.argument("wall(1, -1, 5)", () -> x.wall(1, -1, 5));
        Check.argument("wall(1, 3, 5)", () -> x.wall(1, 3, 5));
        Check.argument("wall(0, 1, -1)", () -> x.wall(0, 1, -1));
        Check.argument("wall(0, 1, 101)", () -> x.wall(0, 1, 101));
        Check.argument("wall(2, 2, 5)", () -> x.wall(2, 2, 5));
        Check.argument("wall(0, 0, 0)", () -> x.wall(0, 0, 0));
        Check.argument("wall of extremes", () -> x.wall(Integer.MIN_VALUE, Integer.MAX_VALUE, Integer.MAX_VALUE));
        Check.due("colours after refused walls", 2, x::colours);
        Check.due("wall after refused walls", 50, () -> x.wall(0, 1, 50));
        Check.due("no wall after refused walls", 0, () -> x.wall(1, 2, 0));
    }

    private static void valueTellsWhatItWas() {
        ZoneThreads x = new ZoneThreads(2);
        Check.due("value: first", 0, () -> x.value(1, 1000000));
        Check.due("value: at", 1000000, () -> x.at(1));
        Check.due("value: second", 1000000, () -> x.value(1, -1000000));
        Check.due("value: at again", -1000000, () -> x.at(1));
        Check.due("value: the other zone", 0, () -> x.at(0));
        x.value(1, 1000);
        x.wall(0, 1, 100);
        x.run(1, 0, 1);
        Check.due("value: what a run made", 910, () -> x.value(1, 3));
    }

    private static void valueRefuses() {
        ZoneThreads x = new ZoneThreads(2);
        x.value(0, 5);
        Check.argument("value(-1, 0)", () -> x.value(-1, 0));
        Check.argument("value(2, 0)", () -> x.value(2, 0));
        Check.argument("value(0, 1000001)", () -> x.value(0, 1000001));
        Check.argument("value(0, -1000001)", () -> x.value(0, -1000001));
        Check.argument("value(0, MIN)", () -> x.value(0, Integer.MIN_VALUE));
        Check.due("value after refused ones", 5, () -> x.at(0));
    }

    private static void colourRow(String what, ZoneThreads x, int... row) {
        for (int zone = 0; zone < row.length; zone++) {
            int z = zone;
            Check.due(what + ": colour(" + z + ")", row[z], () -> x.colour(z));
        }
    }

    private static void coloursAreTheLeastFree() {
        ZoneThreads x = new ZoneThreads(5);
        x.wall(0, 3, 1);
        x.wall(1, 2, 1);
        x.wall(2, 3, 1);
        x.wall(3, 4, 1);
        colourRow("a chain out of order", x, 0, 0, 1, 2, 0);
        Check.due("a chain out of order: colours", 3, x::colours);
    }

    private static void coloursFollowTheWalls() {
        ZoneThreads x = new ZoneThreads(4);
        x.wall(0, 1, 100);
        x.wall(1, 2, 100);
        x.wall(2, 0, 100);
        colourRow("a triangle", x, 0, 1, 2, 0);
        Check.due("a triangle: colours", 3, x::colours);
        x.wall(0, 2, 0);
        colourRow("one wall less", x, 0, 1, 0, 0);
        Check.due("one wall less: colours", 2, x::colours);
        x.wall(0, 1, 0);
        colourRow("two walls less", x, 0, 0, 1, 0);
        x.wall(2, 1, 0);
        Check.due("no walls: colours", 1, x::colours);
    }

    private static void coloursUpToAllZones() {
        ZoneThreads x = new ZoneThreads(24);
        for (int zone = 0; zone < 24; zone++) {
            for (int other = 0; other < zone; other++) {
                x.wall(zone, other, 1);
            }
        }
        Check.due("all walls: colours", 24, x::colours);
        Check.due("all walls: colour(0)", 0, () -> x.colour(0));
        Check.due("all walls: colour(23)", 23, () -> x.colour(23));
    }

    private static void colourAndAtRefuse() {
        ZoneThreads x = new ZoneThreads(3);
        int[] zones = {-1, 3, Integer.MIN_VALUE, Integer.MAX_VALUE};
        for (int zone : zones) {
            Check.argument("colour(" + zone + ")", () -> x.colour(zone));
            Check.argument("at(" + zone + ")", () -> x.at(zone));
        }
    }

    private static ZoneThreads withValues(int... row) {
        ZoneThreads x = new ZoneThreads(row.length);
        for (int zone = 0; zone < row.length; zone++) {
            x.value(zone, row[zone]);
        }
        return x;
    }

    private static void sumHalvesRoundedUp() {
        Check.due("sum of one", -7, () -> withValues(-7).sum());
        Check.due("sum of two", 3, () -> withValues(-7, 10).sum());
        Check.due("sum of three", 999990, () -> withValues(1000000, 5, -10).sum());
        Check.due("sum of four", 999995, () -> withValues(0, 1000000, 5, -10).sum());
        Check.due("sum of five", 999995, () -> withValues(0, 0, 1000000, 5, -10).sum());
        Check.due("sum of six", 999985, () -> withValues(0, 1000000, 5, -10, -20, 15).sum());
        Check.due("sum of seven", 999995, () -> withValues(0, 0, 0, 1000000, 5, -10, 0).sum());
    }

    private static void sumIsKeptWithin() {
        Check.due("sum at the top", 1000000, () -> withValues(1000000, 1).sum());
        Check.due("sum at the bottom", -1000000, () -> withValues(-1000000, -1).sum());
        Check.due("both halves kept", 0, () -> withValues(900000, 900000, -700000, -600000).sum());
        ZoneThreads x = new ZoneThreads(24);
        for (int zone = 0; zone < 24; zone++) {
            x.value(zone, zone < 12 ? 1000000 : -100000);
        }
        Check.due("sum of 24", 0, x::sum);
    }
}
