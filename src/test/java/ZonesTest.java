/** Promises 2, 3 and 7 to 10 in ordinary use: walls, values, colours and the sum. */
public final class ZonesTest {
    public static void main(String[] args) {
        wallTellsWhatItWas();
        valueTellsWhatItWas();
        coloursAreTheLeastFree();
        coloursFollowTheWalls();
        sumOfAllZones();
        Check.end();
    }

    private static void wallTellsWhatItWas() {
        ZoneThreads x = new ZoneThreads(4);
        Check.due("wall: first", 0, () -> x.wall(0, 3, 100));
        Check.due("wall: from the other side", 100, () -> x.wall(3, 0, 1));
        Check.due("wall: taken away", 1, () -> x.wall(0, 3, 0));
        Check.due("wall: built again", 0, () -> x.wall(3, 0, 7));
        Check.due("wall: another", 0, () -> x.wall(1, 2, 9));
        Check.due("wall: the same share", 7, () -> x.wall(0, 3, 7));
        Check.due("wall: unharmed", 7, () -> x.wall(3, 0, 7));
        Check.due("wall: the other, too", 9, () -> x.wall(2, 1, 9));
        Check.due("wall: 0 and 1 have none", 0, () -> x.wall(0, 1, 0));
    }

    private static void valueTellsWhatItWas() {
        ZoneThreads x = new ZoneThreads(2);
        Check.due("value: first", 0, () -> x.value(1, 1000000));
        Check.due("value: at", 1000000, () -> x.at(1));
        Check.due("value: second", 1000000, () -> x.value(1, -1000000));
        Check.due("value: at again", -1000000, () -> x.at(1));
        Check.due("value: the other zone", 0, () -> x.at(0));
        x.value(1, 1000);
        x.wall(0, 1, 100);
        x.run(1, 0, 1);
        Check.due("value: what a run made", 910, () -> x.value(1, 3));
    }

    private static void coloursAreTheLeastFree() {
        ZoneThreads x = new ZoneThreads(5);
        x.wall(0, 3, 1);
        x.wall(1, 2, 1);
        x.wall(2, 3, 1);
        x.wall(3, 4, 1);
        Check.colours("a chain out of order", x, 0, 0, 1, 2, 0);
        Check.due("a chain out of order: colours", 3, x::colours);
    }

    private static void coloursFollowTheWalls() {
        ZoneThreads x = new ZoneThreads(4);
        x.wall(0, 1, 100);
        x.wall(1, 2, 100);
        x.wall(2, 0, 100);
        Check.colours("a triangle", x, 0, 1, 2, 0);
        Check.due("a triangle: colours", 3, x::colours);
        x.wall(0, 2, 0);
        Check.colours("one wall less", x, 0, 1, 0, 0);
        Check.due("one wall less: colours", 2, x::colours);
        x.wall(0, 1, 0);
        Check.colours("two walls less", x, 0, 0, 1, 0);
        x.wall(2, 1, 0);
        Check.due("no walls: colours", 1, x::colours);
    }

    private static void sumOfAllZones() {
        ZoneThreads x = Given.values(10, -3, 500, 8, 0);
        Check.due("sum", 515, x::sum);
        x.value(4, -1000);
        Check.due("sum of other values", -485, x::sum);
    }
}
