/** Promises 20 to 24: mornings, evenings. */
public final class EveningsTest {
    private static final Check CHECK = new Check();

    public static void main(String[] args) {
        morning();
        arrive();
        clear();
        plan();
        planned();
        CHECK.end();
    }

    private static void morning() {
        CHECK.promise(20);
        CellarCars x = new CellarCars();
        x.lane(0, 30, 9, 99);
        x.lane(2, 30, 9, 99);
        x.lane(0, 30, 9, 99);
        Check.cars(x, 3, 5, 7, 9, 7, 3, 8);
        for (int car = 0; car < 4; car++) {
            x.park(car, 0);
        }
        x.park(4, 1);
        x.park(5, 1);
        CHECK.due("morning(0)", x.morning(0), 8);
        CHECK.due("morning(1)", x.morning(1), 2);
        CHECK.due("morning(2)", x.morning(2), 0);
        CHECK.due("morning(-1)", x.morning(-1), 10);
        CHECK.due("morning(3)", x.morning(3), Check.BEYOND);
        CHECK.due("morning(-2)", x.morning(-2), Check.BEYOND);
        x.tell(0, 0, 23);
        CHECK.due("morning(0) behind tell", x.morning(0), 2);
    }

    private static void arrive() {
        CHECK.promise(21);
        CHECK.words("A CAR arrives behind those of THE EVENING: how many.");
        CellarCars x = new CellarCars();
        x.lane(0, 30, 9, 99);
        Check.cars(x, 3, 1, 1, 1, 1, 1, 1, 1, 1);
        x.park(6, 0);
        for (int i = 0; i < 7; i++) {
            CHECK.due("arrive " + i, x.arrive(6 - i), i + 1);
            CHECK.due("arrive again " + i, x.arrive(6), Check.TAKEN);
        }
        CHECK.due("an eighth", x.arrive(7), Check.FULL);
        CHECK.due("arrive(8)", x.arrive(8), Check.BEYOND);
        CHECK.due("arrive(-1)", x.arrive(-1), Check.BEYOND);
        CHECK.due("it stays where it is", x.carIs(6, 6), 0);
    }

    private static void clear() {
        CHECK.promise(22);
        CellarCars x = new CellarCars();
        Check.cars(x, 3, 1, 1);
        CHECK.due("clear()", x.clear(), 0);
        x.arrive(1);
        x.arrive(0);
        CHECK.due("clear() of two", x.clear(), 2);
        CHECK.due("clear() again", x.clear(), 0);
        CHECK.due("arrive(1)", x.arrive(1), 1);
    }

    private static void plan() {
        CHECK.promise(23);
        CellarCars x = new CellarCars();
        Check.cars(x, 3, 1, 2, 3, 4);
        CHECK.due("nobody, no lanes", x.plan(), 0);
        x.arrive(0);
        CHECK.due("no lanes", x.plan(), Check.NONE);
        x.lane(1, 6, 9, 99);
        CHECK.due("one", x.plan(), 0);
        x.arrive(1);
        CHECK.due("two, the later at the front", x.plan(), 2);
        x.tell(1, 0, 1);
        CHECK.due("two that leave at one hour", x.plan(), 0);
        x.tell(1, 0, 2);
        x.lane(0, 6, 9, 99);
        CHECK.due("two lanes", x.plan(), 0);
        x.arrive(2);
        CHECK.due("three in two lanes", x.plan(), 2);
        x.arrive(3);
        CHECK.due("four in two lanes", x.plan(), 4);
        x.breaks(0, true);
        x.park(0, 1);
        x.park(1, 1);
        CHECK.due("as if empty, none broken", x.plan(), 4);
        x.car(1, 1, 1, 9, 0, 0);
        x.arrive(4);
        CHECK.due("no room for a fifth", x.plan(), Check.NONE);
        x.lane(2, 9, 9, 99);
        CHECK.due("a third lane", x.plan(), 4);
        x.tell(0, 0, 23);
        x.tell(1, 0, 22);
        x.tell(2, 0, 21);
        CHECK.due("in an order to leave", x.plan(), 0);
        x.car(1, 10, 1, 9, 0, 0);
        x.arrive(5);
        CHECK.due("one fits nowhere", x.plan(), Check.NONE);
        CHECK.due("morning(-1) is another matter", x.morning(-1), 0);
    }

    private static void planned() {
        CHECK.promise(24);
        CHECK.words("The LANE of a CAR by THE PLAN.");
        CellarCars x = new CellarCars();
        x.lane(0, 6, 9, 99);
        x.lane(0, 6, 9, 99);
        Check.cars(x, 3, 1, 2, 3, 4, 5);
        x.arrive(3);
        x.arrive(1);
        x.arrive(2);
        CHECK.due("plan()", x.plan(), 0);
        CHECK.due("planned(3)", x.planned(3), 0);
        CHECK.due("planned(1)", x.planned(1), 0);
        CHECK.due("planned(2)", x.planned(2), 1);
        CHECK.due("does not arrive", x.planned(0), Check.NONE);
        CHECK.due("planned(5)", x.planned(5), Check.BEYOND);
        CHECK.due("planned(-1)", x.planned(-1), Check.BEYOND);
        x.arrive(0);
        CHECK.due("planned(3) of four", x.planned(3), 0);
        CHECK.due("planned(1) of four", x.planned(1), 0);
        CHECK.due("planned(0) of four", x.planned(0), 1);
        x.arrive(4);
        CHECK.due("there is none", x.planned(3), Check.NONE);
        x.clear();
        CHECK.due("nobody arrives", x.planned(3), Check.NONE);
    }
}
