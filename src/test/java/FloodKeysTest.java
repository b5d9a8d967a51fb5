/** Promises 38 to 43: flood, keys. */
public final class FloodKeysTest {
    private static final Check CHECK = new Check();

    public static void main(String[] args) {
        flood();
        pace();
        rescue();
        rescued();
        note();
        key();
        CHECK.end();
    }

    private static void parkWorths(CellarCars x, int lane, int... worths) {
        for (int worth : worths) {
            x.park(x.car(1, 1, 1, 1, 0, worth), lane);
        }
    }

    private static void flood() {
        CHECK.promise(38);
        CHECK.words("MINUTE of a LANE becomes v: what it was. BEYOND.");
        CellarCars x = new CellarCars();
        x.lane(0, 9, 9, 99);
        x.lane(2, 9, 9, 99);
        CHECK.due("flood(0, 200)", x.flood(0, 200), 100);
        CHECK.due("flood(0, 0)", x.flood(0, 0), 200);
        CHECK.due("flood(0, 5)", x.flood(0, 5), 0);
        CHECK.due("a low one's is told as it was said", x.flood(1, 70), 100);
        CHECK.due("again", x.flood(1, 70), 70);
        int[][] beyond = {{2, 0}, {-1, 0}, {0, 201}, {0, -1}};
        for (int[] a : beyond) {
            CHECK.due("flood beyond", x.flood(a[0], a[1]), Check.BEYOND);
        }
        parkWorths(x, 1, 8);
        CHECK.due("70 less 60", x.rescue(), 8);
        x.flood(1, 69);
        CHECK.due("69 less 60", x.rescue(), 0);
        x.pace(1);
        x.flood(1, 59);
        CHECK.due("0 at least", x.rescue(), 0);
    }

    private static void pace() {
        CHECK.promise(39);
        CHECK.words("PACE becomes v: what it was. BEYOND.");
        CellarCars x = new CellarCars();
        CHECK.due("pace(1)", x.pace(1), 10);
        CHECK.due("pace(30)", x.pace(30), 1);
        CHECK.due("pace(31)", x.pace(31), Check.BEYOND);
        CHECK.due("pace(0)", x.pace(0), Check.BEYOND);
        CHECK.due("pace(10)", x.pace(10), 30);
        x.lane(0, 9, 9, 99);
        parkWorths(x, 0, 1, 2, 4);
        x.flood(0, 20);
        CHECK.due("two at a pace of 10", x.rescue(), 6);
        x.pace(11);
        CHECK.due("one at a pace of 11", x.rescue(), 4);
        x.pace(20);
        CHECK.due("one at a pace of 20", x.rescue(), 4);
        x.pace(21);
        CHECK.due("none at a pace of 21", x.rescue(), 0);
    }

    private static void rescue() {
        CHECK.promise(40);
        CHECK.words("WORTH of THE RESCUE.");
        CellarCars x = new CellarCars();
        CHECK.due("nobody", x.rescue(), 0);
        x.lane(0, 9, 9, 99);
        x.lane(1, 9, 9, 99);
        parkWorths(x, 0, 50, 1, 1);
        parkWorths(x, 1, 20, 20);
        CHECK.due("all", x.rescue(), 92);
        x.flood(0, 30);
        x.flood(1, 30);
        CHECK.due("three of five", x.rescue(), 52);
        x.flood(0, 20);
        CHECK.due("the lift's two, and one", x.rescue(), 41);
        x.breaks(1, true);
        CHECK.due("none from a broken lift", x.rescue(), 2);
        x.breaks(1, false);
        for (int i = 0; i < 5; i++) {
            x.leave(4);
            x.park(4, 1);
        }
        CHECK.due("cycles are spent", x.laneIs(1, 6), 12);
        CHECK.due("they are not asked", x.rescue(), 41);
        CHECK.due("nobody is taken", x.all(2), 5);
    }

    private static void rescued() {
        CHECK.promise(41);
        CHECK.words("The CAR that is taken as number i (from 0 on) by THE RESCUE.");
        CellarCars x = new CellarCars();
        x.lane(0, 9, 9, 99);
        x.lane(0, 9, 9, 99);
        x.lane(0, 9, 9, 99);
        parkWorths(x, 0, 0, 7, 0);
        parkWorths(x, 1, 3, 0);
        parkWorths(x, 2, 0);
        CHECK.due("rescue()", x.rescue(), 10);
        int[] first = {2, 1, 4, 3};
        for (int i = 0; i < 4; i++) {
            CHECK.due("rescued(" + i + ")", x.rescued(i), first[i]);
        }
        CHECK.due("fewest cars", x.rescued(4), Check.NONE);
        CHECK.due("rescued(-1)", x.rescued(-1), Check.BEYOND);
        CHECK.due("rescued(far)", x.rescued(Integer.MAX_VALUE), Check.NONE);
        x.flood(1, 20);
        int[] hurried = {4, 3, 2, 1};
        for (int i = 0; i < 4; i++) {
            CHECK.due("rescued(" + i + ") behind flood", x.rescued(i), hurried[i]);
        }
        x.flood(0, 19);
        CHECK.due("the other lane only", x.rescue(), 3);
        CHECK.due("rescued(1)", x.rescued(1), 3);
        CHECK.due("rescued(2)", x.rescued(2), Check.NONE);
        x.flood(1, 5);
        CHECK.due("nobody is worth it", x.rescued(0), Check.NONE);
    }

    private static void note() {
        CHECK.promise(42);
        CellarCars x = new CellarCars();
        Check.cars(x, 1, 1, 1);
        int[][] beyond = {{2, 0}, {-1, 0}, {0, 24}, {0, -1}};
        for (int[] a : beyond) {
            CHECK.due("note beyond", x.note(a[0], a[1], true), Check.BEYOND);
        }
        for (int i = 1; i <= 30; i++) {
            CHECK.due("note " + i, x.note(i % 2, i % 24, i % 3 == 0), i);
        }
        CHECK.due("a note more", x.note(0, 0, true), Check.FULL);
        CHECK.due("a note more, beyond", x.note(2, 0, true), Check.BEYOND);
        CHECK.due("all(4)", x.all(4), 30);
    }

    private static void key() {
        CHECK.promise(43);
        CHECK.words("KEY of a CAR in an hour, as known behind so many NOTES: 1, 0.");
        CellarCars x = new CellarCars();
        Check.cars(x, 1, 1, 1);
        CHECK.due("none without notes", x.key(0, 23, 0), 0);
        CHECK.due("more than there are", x.key(0, 23, 1), Check.BEYOND);
        x.note(0, 5, true);
        x.note(0, 9, false);
        x.note(0, 5, false);
        x.note(0, 7, true);
        x.note(1, 0, true);
        int[][] due = {{4, 5, 0}, {5, 0, 0}, {5, 1, 1}, {23, 1, 1}, {8, 2, 1}, {9, 2, 0}, {5, 3, 0},
            {8, 3, 0}, {6, 4, 0}, {7, 4, 1}, {8, 4, 1}, {9, 4, 0}, {23, 5, 0}};
        for (int[] a : due) {
            CHECK.due("key(0, " + a[0] + ", " + a[1] + ")", x.key(0, a[0], a[1]), a[2]);
        }
        CHECK.due("of the other", x.key(1, 0, 5), 1);
        CHECK.due("of the other, one note less", x.key(1, 0, 4), 0);
        int[][] beyond = {{2, 0, 0}, {-1, 0, 0}, {0, 24, 0}, {0, -1, 0}, {0, 0, 6}, {0, 0, -1}};
        for (int[] a : beyond) {
            CHECK.due("key beyond", x.key(a[0], a[1], a[2]), Check.BEYOND);
        }
    }
}
