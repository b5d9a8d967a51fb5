/** Promises 1 to 10: a new object, lanes, cars. */
public final class LanesCarsTest {
    private static final Check CHECK = new Check();

    public static void main(String[] args) {
        newObject();
        lane();
        as();
        laneIs();
        breaks();
        car();
        carIs();
        tell();
        at();
        fits();
        CHECK.end();
    }

    private static void newObject() {
        CHECK.promise(1);
        CellarCars x = new CellarCars();
        for (int what = 0; what <= 6; what++) {
            CHECK.due("all(" + what + ")", x.all(what), 0);
        }
        CHECK.due("undo()", x.undo(), Check.NONE);
        CHECK.due("hour(5)", x.hour(5), 0);
        CHECK.due("chargers(2)", x.chargers(2), 1);
        CHECK.due("pace(3)", x.pace(3), 10);
        CHECK.due("porter(3)", x.porter(3), 0);
        CHECK.due("bid(4, 4, 1)", x.bid(4, 4, 1), 0);
        CHECK.due("clear()", x.clear(), 0);
        CHECK.due("plan()", x.plan(), 0);
        CHECK.due("charged()", x.charged(), 0);
        CHECK.due("rescue()", x.rescue(), 0);
        CHECK.due("wrong()", x.wrong(), -1);
        CHECK.due("morning(-1)", x.morning(-1), 0);
        CHECK.due("night()", x.night(), 0);
        for (int s = 0; s < 4; s++) {
            CHECK.due("text(" + s + ")", x.text(s), Check.MISSING);
        }
        CHECK.due("laneIs(0, 0)", x.laneIs(0, 0), Check.BEYOND);
        CHECK.due("carIs(0, 0)", x.carIs(0, 0), Check.BEYOND);
        CellarCars y = new CellarCars();
        x.lane(0, 1, 1, 1);
        CHECK.due("all(0) of another object", y.all(0), 0);
    }

    private static void lane() {
        CHECK.promise(2);
        CHECK.words("A new LANE: its number.");
        CellarCars x = new CellarCars();
        int[][] beyond = {{-1, 1, 1, 1}, {4, 1, 1, 1}, {0, 0, 1, 1}, {0, 31, 1, 1}, {0, 1, 0, 1},
            {0, 1, 31, 1}, {0, 1, 1, 0}, {0, 1, 1, 100}, {Integer.MIN_VALUE, 1, 1, 1},
            {0, Integer.MAX_VALUE, 1, 1}};
        for (int[] a : beyond) {
            CHECK.due("lane beyond", x.lane(a[0], a[1], a[2], a[3]), Check.BEYOND);
        }
        CHECK.due("all(0)", x.all(0), 0);
        CHECK.due("lane(0, 1, 1, 1)", x.lane(0, 1, 1, 1), 0);
        CHECK.due("lane(1, 30, 30, 99)", x.lane(1, 30, 30, 99), 1);
        CHECK.due("lane(2, 5, 5, 5)", x.lane(2, 5, 5, 5), 2);
        CHECK.due("lane(3, 5, 5, 5)", x.lane(3, 5, 5, 5), 3);
        CHECK.due("lane(0, 5, 5, 5)", x.lane(0, 5, 5, 5), 4);
        CHECK.due("a sixth lane", x.lane(0, 5, 5, 5), Check.FULL);
        CHECK.due("a sixth lane, beyond", x.lane(4, 5, 5, 5), Check.BEYOND);
        CHECK.due("all(0)", x.all(0), 5);
    }

    private static void as() {
        CHECK.promise(3);
        CHECK.words("A LANE as one of a kind: its number.");
        CellarCars x = new CellarCars();
        boolean[][] isOf = {{true, false, false, false}, {true, true, false, false},
            {true, false, true, false}, {true, true, false, true}};
        for (int kind = 0; kind < 4; kind++) {
            x.lane(kind, 5, 5, 5);
        }
        for (int lane = 0; lane < 4; lane++) {
            for (int kind = 0; kind < 4; kind++) {
                CHECK.due("as(" + lane + ", " + kind + ")", x.as(lane, kind),
                        isOf[lane][kind] ? lane : Check.KIND);
            }
            CHECK.due("as(lane, 4)", x.as(lane, 4), Check.BEYOND);
            CHECK.due("as(lane, -1)", x.as(lane, -1), Check.BEYOND);
        }
        CHECK.due("as(4, 0)", x.as(4, 0), Check.BEYOND);
        CHECK.due("as(-1, 0)", x.as(-1, 0), Check.BEYOND);
        CHECK.due("as keeps nothing for undo", x.undo(), 3);
    }

    private static void laneIs() {
        CHECK.promise(4);
        CHECK.words("Of a LANE: 0 its kind, 1 LENGTH, 2 HEIGHT, 3 what a car may weigh, 4 how many CARS, 5 "
            + "LENGTH that is left, 6 CYCLES this night, 7 whether BROKEN (1, 0).");
        CellarCars x = new CellarCars();
        x.lane(3, 9, 7, 41);
        x.lane(1, 12, 8, 41);
        x.lane(0, 30, 30, 99);
        x.car(4, 7, 20, 1, 0, 0);
        x.car(3, 7, 20, 1, 0, 0);
        x.park(0, 0);
        x.park(1, 0);
        x.breaks(1, true);
        int[] tower = {3, 9, 7, 20, 2, 2, 2, 0};
        int[] lift = {1, 12, 8, 41, 0, 12, 0, 1};
        for (int what = 0; what < 8; what++) {
            CHECK.due("laneIs(0, " + what + ")", x.laneIs(0, what), tower[what]);
            CHECK.due("laneIs(1, " + what + ")", x.laneIs(1, what), lift[what]);
        }
        x.leave(1);
        CHECK.due("cycles of a tower", x.laneIs(0, 6), 3);
        x.park(1, 2);
        CHECK.due("cycles of a row", x.laneIs(2, 6), 0);
        CHECK.due("laneIs(0, 8)", x.laneIs(0, 8), Check.BEYOND);
        CHECK.due("laneIs(0, -1)", x.laneIs(0, -1), Check.BEYOND);
        CHECK.due("laneIs(3, 0)", x.laneIs(3, 0), Check.BEYOND);
        CHECK.due("laneIs(-1, 0)", x.laneIs(-1, 0), Check.BEYOND);
        x.lane(3, 9, 9, 1);
        CHECK.due("half of 1, cut", x.laneIs(3, 3), 0);
    }

    private static void breaks() {
        CHECK.promise(5);
        CHECK.words("A LIFT is BROKEN, or no more: 1 if that is new, else 0. BEYOND.");
        CellarCars x = new CellarCars();
        for (int kind = 0; kind < 4; kind++) {
            x.lane(kind, 5, 5, 5);
        }
        CHECK.due("a row", x.breaks(0, true), Check.KIND);
        CHECK.due("a row, no more", x.breaks(0, false), Check.KIND);
        CHECK.due("a low one", x.breaks(2, true), Check.KIND);
        CHECK.due("a lift that is not broken", x.breaks(1, false), 0);
        CHECK.due("a lift", x.breaks(1, true), 1);
        CHECK.due("a lift again", x.breaks(1, true), 0);
        CHECK.due("a tower", x.breaks(3, true), 1);
        CHECK.due("a tower no more", x.breaks(3, false), 1);
        CHECK.due("laneIs(1, 7)", x.laneIs(1, 7), 1);
        CHECK.due("laneIs(3, 7)", x.laneIs(3, 7), 0);
        CHECK.due("breaks(4, true)", x.breaks(4, true), Check.BEYOND);
        CHECK.due("breaks(-1, true)", x.breaks(-1, true), Check.BEYOND);
    }

    private static void car() {
        CHECK.promise(6);
        CellarCars x = new CellarCars();
        int[] least = {1, 1, 1, 0, 0, 0};
        int[] most = {9, 30, 99, 23, 9, 99};
        for (int which = 0; which < 6; which++) {
            int[] a = least.clone();
            a[which] = least[which] - 1;
            CHECK.due("car, too little " + which, x.car(a[0], a[1], a[2], a[3], a[4], a[5]), Check.BEYOND);
            a[which] = most[which] + 1;
            CHECK.due("car, too much " + which, x.car(a[0], a[1], a[2], a[3], a[4], a[5]), Check.BEYOND);
        }
        CHECK.due("car of the least", x.car(1, 1, 1, 0, 0, 0), 0);
        CHECK.due("car of the most", x.car(9, 30, 99, 23, 9, 99), 1);
        CHECK.due("it is out", x.carIs(1, 6), -1);
        for (int car = 2; car < 8; car++) {
            CHECK.due("car " + car, x.car(1, 1, 1, 0, 0, 0), car);
        }
        CHECK.due("a ninth", x.car(1, 1, 1, 0, 0, 0), Check.FULL);
        CHECK.due("a ninth, beyond", x.car(0, 1, 1, 0, 0, 0), Check.BEYOND);
        CHECK.due("all(1)", x.all(1), 8);
    }

    private static void carIs() {
        CHECK.promise(7);
        CHECK.words("Of a CAR: 0 LENGTH, 1 HEIGHT, 2 WEIGHT, 3 HOUR, 4 NEED, 5 WORTH, 6 its LANE (-1: OUT, "
            + "no finding), 7 how many CARS are ahead of it (0 if OUT).");
        CellarCars x = new CellarCars();
        x.lane(0, 30, 30, 99);
        x.lane(0, 30, 30, 99);
        x.car(1, 2, 3, 4, 5, 6);
        x.car(6, 5, 4, 3, 2, 1);
        int[] out = {1, 2, 3, 4, 5, 6, -1, 0};
        for (int what = 0; what < 8; what++) {
            CHECK.due("carIs(0, " + what + ")", x.carIs(0, what), out[what]);
        }
        x.park(0, 1);
        x.park(1, 1);
        int[] first = {1, 2, 3, 4, 5, 6, 1, 1};
        int[] second = {6, 5, 4, 3, 2, 1, 1, 0};
        for (int what = 0; what < 8; what++) {
            CHECK.due("carIs(0, " + what + ")", x.carIs(0, what), first[what]);
            CHECK.due("carIs(1, " + what + ")", x.carIs(1, what), second[what]);
        }
        CHECK.due("out is no finding", x.all(6), 0);
        CHECK.due("carIs(0, 8)", x.carIs(0, 8), Check.BEYOND);
        CHECK.due("carIs(0, -1)", x.carIs(0, -1), Check.BEYOND);
        CHECK.due("carIs(2, 0)", x.carIs(2, 0), Check.BEYOND);
        CHECK.due("carIs(-1, 0)", x.carIs(-1, 0), Check.BEYOND);
    }

    private static void tell() {
        CHECK.promise(8);
        CHECK.words("HOUR (which 0), NEED (1), WORTH (2) of a CAR becomes v: what it was. BEYOND.");
        CellarCars x = new CellarCars();
        x.car(1, 2, 3, 4, 5, 6);
        x.car(1, 2, 3, 4, 5, 6);
        CHECK.due("tell(1, 0, 23)", x.tell(1, 0, 23), 4);
        CHECK.due("tell(1, 1, 9)", x.tell(1, 1, 9), 5);
        CHECK.due("tell(1, 2, 99)", x.tell(1, 2, 99), 6);
        CHECK.due("tell(1, 0, 0)", x.tell(1, 0, 0), 23);
        CHECK.due("tell(1, 1, 0)", x.tell(1, 1, 0), 9);
        CHECK.due("tell(1, 2, 0)", x.tell(1, 2, 0), 99);
        int[] is = {1, 2, 3, 0, 0, 0};
        for (int what = 0; what < 6; what++) {
            CHECK.due("carIs(1, " + what + ")", x.carIs(1, what), is[what]);
        }
        CHECK.due("the other one", x.carIs(0, 3), 4);
        int[][] beyond = {{2, 0, 1}, {-1, 0, 1}, {0, 3, 1}, {0, -1, 1}, {0, 0, 24}, {0, 0, -1},
            {0, 1, 10}, {0, 1, -1}, {0, 2, 100}, {0, 2, -1}, {0, Integer.MAX_VALUE, 1}};
        for (int[] a : beyond) {
            CHECK.due("tell beyond", x.tell(a[0], a[1], a[2]), Check.BEYOND);
        }
    }

    private static void at() {
        CHECK.promise(9);
        CHECK.words("The CAR at place i (from 0, behind, on) of a LANE.");
        CellarCars x = new CellarCars();
        x.lane(0, 30, 30, 99);
        x.lane(0, 30, 30, 99);
        Check.cars(x, 3, 1, 2, 3);
        x.park(2, 1);
        x.park(0, 1);
        CHECK.due("at(1, 0)", x.at(1, 0), 2);
        CHECK.due("at(1, 1)", x.at(1, 1), 0);
        CHECK.due("at(1, 2)", x.at(1, 2), Check.NONE);
        CHECK.due("at(1, -1)", x.at(1, -1), Check.NONE);
        CHECK.due("at(0, 0)", x.at(0, 0), Check.NONE);
        CHECK.due("at(0, far)", x.at(0, Integer.MAX_VALUE), Check.NONE);
        CHECK.due("at(2, 0)", x.at(2, 0), Check.BEYOND);
        CHECK.due("at(-1, 0)", x.at(-1, 0), Check.BEYOND);
        x.leave(0);
        CHECK.due("at(1, 1) behind leave", x.at(1, 1), Check.NONE);
    }

    private static void fits() {
        CHECK.promise(10);
        CHECK.words("Whether a CAR FITS a LANE (ROOM is not asked): 1, 0. BEYOND.");
        CellarCars x = new CellarCars();
        x.lane(0, 1, 5, 20);
        x.lane(3, 9, 9, 41);
        x.car(9, 5, 20, 1, 0, 0);
        x.car(1, 6, 20, 1, 0, 0);
        x.car(1, 5, 21, 1, 0, 0);
        CHECK.due("as high and heavy as may be, too long", x.fits(0, 0), 1);
        CHECK.due("too high", x.fits(1, 0), 0);
        CHECK.due("too heavy", x.fits(2, 0), 0);
        CHECK.due("half the load of a tower", x.fits(0, 1), 1);
        CHECK.due("above half the load of a tower", x.fits(2, 1), 0);
        x.breaks(1, true);
        CHECK.due("a broken one is not asked", x.fits(0, 1), 1);
        CHECK.due("fits(3, 0)", x.fits(3, 0), Check.BEYOND);
        CHECK.due("fits(-1, 0)", x.fits(-1, 0), Check.BEYOND);
        CHECK.due("fits(0, 2)", x.fits(0, 2), Check.BEYOND);
        CHECK.due("fits(0, -1)", x.fits(0, -1), Check.BEYOND);
    }
}
