/** Promises 11 to 19: coming, shunts, going. */
public final class ShuntsTest {
    private static final Check CHECK = new Check();

    public static void main(String[] args) {
        park();
        shunt();
        shuntsOfLifts();
        leave();
        night();
        hour();
        ahead();
        fewest();
        fewestOfThree();
        fewestAsksForCycles();
        step();
        proves();
        CHECK.end();
    }

    private static void park() {
        CHECK.promise(11);
        CHECK.words("A CAR comes to the FRONT of a LANE: how many CARS are there.");
        CellarCars x = new CellarCars();
        x.lane(0, 6, 5, 20);
        x.lane(1, 6, 5, 20);
        x.car(3, 5, 20, 1, 0, 0);
        x.car(4, 5, 20, 1, 0, 0);
        x.car(3, 6, 20, 1, 0, 0);
        x.car(3, 5, 20, 1, 0, 0);
        CHECK.due("park(4, 0)", x.park(4, 0), Check.BEYOND);
        CHECK.due("park(-1, 0)", x.park(-1, 0), Check.BEYOND);
        CHECK.due("park(0, 2)", x.park(0, 2), Check.BEYOND);
        CHECK.due("park(0, -1)", x.park(0, -1), Check.BEYOND);
        CHECK.due("park(0, 0)", x.park(0, 0), 1);
        CHECK.due("in it already", x.park(0, 0), Check.TAKEN);
        CHECK.due("in another", x.park(0, 1), Check.TAKEN);
        CHECK.due("too high", x.park(2, 0), Check.KIND);
        CHECK.due("one too long", x.park(1, 0), Check.FULL);
        CHECK.due("just room", x.park(3, 0), 2);
        CHECK.due("at the front", x.at(0, 1), 3);
        x.breaks(1, true);
        CHECK.due("does not fit, broken", x.park(2, 1), Check.KIND);
        CHECK.due("broken", x.park(1, 1), Check.STUCK);
        x.breaks(1, false);
        for (int i = 0; i < 6; i++) {
            CHECK.due("park(1, 1)", x.park(1, 1), 1);
            CHECK.due("leave(1)", x.leave(1), 1);
        }
        CHECK.due("12 cycles", x.laneIs(1, 6), 12);
        CHECK.due("a thirteenth", x.park(1, 1), Check.STUCK);
        x.night();
        CHECK.due("another night", x.park(1, 1), 1);
        x.breaks(1, true);
        x.leave(3);
        CHECK.due("broken and no room", x.park(3, 1), Check.STUCK);
        x.breaks(1, false);
        CHECK.due("no room", x.park(3, 1), Check.FULL);
    }

    private static void shunt() {
        CHECK.promise(12);
        CellarCars x = new CellarCars();
        x.lane(0, 9, 5, 20);
        x.lane(0, 9, 4, 20);
        x.lane(0, 2, 9, 99);
        x.car(3, 5, 20, 1, 0, 0);
        x.car(3, 4, 20, 1, 0, 0);
        x.car(3, 4, 20, 1, 0, 0);
        CHECK.due("shunt(3, 0)", x.shunt(3, 0), Check.BEYOND);
        CHECK.due("shunt(-1, 0)", x.shunt(-1, 0), Check.BEYOND);
        CHECK.due("shunt(0, 3)", x.shunt(0, 3), Check.BEYOND);
        CHECK.due("shunt(0, -1)", x.shunt(0, -1), Check.BEYOND);
        CHECK.due("out", x.shunt(0, 0), Check.NONE);
        x.park(0, 0);
        x.park(1, 0);
        CHECK.due("in that lane, not at its front", x.shunt(0, 0), Check.TAKEN);
        CHECK.due("not at the front", x.shunt(0, 1), Check.STUCK);
        CHECK.due("no room", x.shunt(1, 2), Check.FULL);
        CHECK.due("no key", x.shunt(1, 1), Check.MISSING);
        Check.fill(x, 0, 10);
        x.text(0);
        CHECK.due("no key, and barred", x.shunt(1, 1), Check.MISSING);
        x.note(1, 2, true);
        CHECK.due("no key in this hour", x.shunt(1, 1), Check.MISSING);
        x.hour(2);
        CHECK.due("barred", x.shunt(1, 1), Check.BARRED);
        Check.fill(x, 0, 1, 12, 41);
        x.text(0);
        CHECK.due("let in hour 2", x.shunt(1, 1), 1);
        CHECK.due("it came", x.at(1, 0), 1);
        CHECK.due("it went", x.laneIs(0, 4), 1);
        x.note(0, 0, true);
        CHECK.due("does not fit", x.shunt(0, 1), Check.KIND);
        CHECK.due("back", x.shunt(1, 0), 2);
        CHECK.due("all(3)", x.all(3), 2);
        x.hour(3);
        CHECK.due("barred in hour 3", x.shunt(1, 1), Check.BARRED);
        CHECK.due("rows have no cycles", x.night(), 0);
    }

    private static void shuntsOfLifts() {
        CellarCars x = new CellarCars();
        x.lane(1, 9, 9, 99);
        x.lane(3, 9, 9, 99);
        x.lane(0, 9, 9, 9);
        Check.cars(x, 3, 1);
        x.car(3, 9, 99, 1, 0, 0);
        Check.keysForAll(x);
        x.park(0, 0);
        x.breaks(1, true);
        CHECK.due("to a broken one", x.shunt(0, 1), Check.STUCK);
        x.breaks(1, false);
        x.breaks(0, true);
        CHECK.due("from a broken one", x.shunt(0, 1), Check.STUCK);
        x.breaks(0, false);
        for (int i = 0; i < 11; i++) {
            CHECK.due("shunt " + i, x.shunt(0, 1 - i % 2), i + 1);
        }
        CHECK.due("cycles of the lift", x.laneIs(0, 6), 12);
        CHECK.due("cycles of the tower", x.laneIs(1, 6), 11);
        CHECK.due("to one without cycles", x.shunt(0, 0), Check.STUCK);
        x.park(1, 2);
        CHECK.due("park is not let by weight", x.carIs(1, 6), -1);
        CHECK.due("the twelfth cycle", x.shunt(0, 2), 12);
        CHECK.due("to the other without cycles", x.shunt(0, 1), Check.STUCK);
        CHECK.due("night()", x.night(), 24);
        CHECK.due("in a new night", x.shunt(0, 1), 13);
        for (int i = 0; i < 11; i++) {
            x.shunt(0, i % 2 == 0 ? 2 : 1);
        }
        CHECK.due("out of the tower at last", x.carIs(0, 6), 2);
        CHECK.due("12 cycles of it", x.laneIs(1, 6), 12);
    }

    private static void leave() {
        CHECK.promise(13);
        CellarCars x = new CellarCars();
        x.lane(0, 9, 9, 99);
        x.lane(1, 9, 9, 99);
        Check.cars(x, 3, 5, 7);
        CHECK.due("leave(2)", x.leave(2), Check.BEYOND);
        CHECK.due("leave(-1)", x.leave(-1), Check.BEYOND);
        CHECK.due("out", x.leave(0), Check.NONE);
        x.park(0, 0);
        x.park(1, 0);
        CHECK.due("not at the front", x.leave(0), Check.STUCK);
        CHECK.due("without a key", x.leave(1), 7);
        CHECK.due("now free", x.leave(0), 5);
        CHECK.due("all(2)", x.all(2), 0);
        x.park(0, 1);
        x.breaks(1, true);
        CHECK.due("broken", x.leave(0), Check.STUCK);
        x.breaks(1, false);
        CHECK.due("leave(0)", x.leave(0), 5);
        CHECK.due("two cycles", x.laneIs(1, 6), 2);
        for (int i = 0; i < 4; i++) {
            x.park(0, 1);
            x.leave(0);
        }
        x.park(0, 1);
        x.park(1, 1);
        CHECK.due("12 cycles", x.leave(1), Check.STUCK);
        CHECK.due("no shunt is told", x.all(3) + x.all(5), 0);
    }

    private static void night() {
        CHECK.promise(14);
        CellarCars x = new CellarCars();
        x.lane(1, 9, 9, 99);
        x.lane(3, 9, 9, 99);
        Check.cars(x, 3, 5, 7, 9);
        x.park(0, 0);
        x.park(1, 0);
        x.park(2, 1);
        x.breaks(1, true);
        x.hour(9);
        CHECK.due("night()", x.night(), 3);
        CHECK.due("laneIs(0, 6)", x.laneIs(0, 6), 0);
        CHECK.due("laneIs(1, 6)", x.laneIs(1, 6), 0);
        CHECK.due("broken still", x.laneIs(1, 7), 1);
        CHECK.due("the hour was 0", x.hour(3), 0);
        CHECK.due("night() again", x.night(), 0);
    }

    private static void hour() {
        CHECK.promise(15);
        CHECK.words("The hour becomes v (0 to 23): what it was. BEYOND.");
        CellarCars x = new CellarCars();
        CHECK.due("hour(23)", x.hour(23), 0);
        CHECK.due("hour(24)", x.hour(24), Check.BEYOND);
        CHECK.due("hour(-1)", x.hour(-1), Check.BEYOND);
        CHECK.due("hour(0)", x.hour(0), 23);
        CHECK.due("hour(0) again", x.hour(0), 0);
    }

    private static void ahead() {
        CHECK.promise(16);
        CHECK.words("Sets are told by bits.");
        CellarCars x = new CellarCars();
        x.lane(0, 30, 9, 99);
        Check.cars(x, 3, 5, 7, 9, 1);
        CHECK.due("out", x.ahead(0), Check.NONE);
        x.park(2, 0);
        x.park(0, 0);
        x.park(3, 0);
        CHECK.due("ahead(2)", x.ahead(2), 9);
        CHECK.due("ahead(0)", x.ahead(0), 8);
        CHECK.due("ahead(3)", x.ahead(3), 0);
        CHECK.due("ahead(1)", x.ahead(1), Check.NONE);
        CHECK.due("ahead(4)", x.ahead(4), Check.BEYOND);
        CHECK.due("ahead(-1)", x.ahead(-1), Check.BEYOND);
    }

    private static void fewest() {
        CHECK.promise(17);
        CHECK.words("How many SHUNTS FEWEST for a CAR has (KEYS in the hour that it is; RULES are not "
            + "asked).");
        CellarCars x = new CellarCars();
        x.lane(0, 9, 9, 99);
        x.lane(0, 3, 9, 99);
        Check.cars(x, 3, 5, 7, 9);
        CHECK.due("fewest(3)", x.fewest(3), Check.BEYOND);
        CHECK.due("fewest(-1)", x.fewest(-1), Check.BEYOND);
        CHECK.due("out", x.fewest(0), Check.NONE);
        x.park(0, 0);
        x.park(1, 0);
        x.park(2, 0);
        CHECK.due("free", x.fewest(2), 0);
        CHECK.due("no keys", x.fewest(1), Check.NONE);
        x.note(2, 4, true);
        CHECK.due("no key yet", x.fewest(1), Check.NONE);
        x.hour(4);
        CHECK.due("a key from now on", x.fewest(1), 1);
        x.note(1, 0, true);
        CHECK.due("no room for two", x.fewest(0), Check.NONE);
        x.lane(2, 3, 9, 99);
        CHECK.due("room for two", x.fewest(0), 2);
        Check.fill(x, 0, 10);
        x.text(0);
        CHECK.due("rules are not asked", x.fewest(0), 2);
        CHECK.due("nothing is done", x.at(0, 2), 2);
        CHECK.due("no shunt is led", x.all(5), 0);
    }

    private static void fewestOfThree() {
        CellarCars x = new CellarCars();
        x.lane(0, 9, 9, 99);
        x.lane(0, 9, 9, 99);
        Check.cars(x, 2, 1, 1, 1, 1, 1);
        Check.keysForAll(x);
        for (int car = 0; car < 4; car++) {
            x.park(car, 0);
        }
        CHECK.due("three ahead", x.fewest(0), 3);
        CHECK.due("its first", x.step(0, 0), 25);
        CHECK.due("its last", x.step(0, 2), 9);
        x.lane(0, 2, 9, 99);
        CHECK.due("the first by numbers", x.step(0, 2), 9);
        CellarCars y = new CellarCars();
        y.lane(0, 12, 9, 99);
        y.lane(0, 30, 9, 99);
        Check.cars(y, 2, 1, 1, 1, 1, 1);
        Check.keysForAll(y);
        for (int car = 0; car < 5; car++) {
            y.park(car, 0);
        }
        CHECK.due("four ahead", y.fewest(0), Check.NONE);
        CHECK.due("three ahead of the next", y.fewest(1), 3);
    }

    /** A car that must first make room elsewhere, and cycles that are spent by the shunts themselves. */
    private static void fewestAsksForCycles() {
        CellarCars x = new CellarCars();
        x.lane(0, 6, 9, 99);
        x.lane(0, 3, 9, 99);
        x.lane(0, 2, 9, 99);
        x.car(3, 1, 1, 1, 0, 0);
        x.car(3, 1, 1, 1, 0, 0);
        x.car(2, 1, 1, 1, 0, 0);
        Check.keysForAll(x);
        x.park(0, 0);
        x.park(1, 0);
        x.park(2, 1);
        CHECK.due("another makes room first", x.fewest(0), 2);
        CHECK.due("the one that makes room", x.step(0, 0), 18);
        CHECK.due("the one ahead", x.step(0, 1), 9);
        CellarCars y = new CellarCars();
        y.lane(0, 9, 9, 99);
        y.lane(1, 9, 9, 99);
        Check.cars(y, 2, 1, 1, 1);
        Check.keysForAll(y);
        for (int car = 0; car < 3; car++) {
            y.park(car, 0);
        }
        for (int i = 0; i < 5; i++) {
            y.shunt(2, 1);
            y.shunt(2, 0);
        }
        CHECK.due("two cycles are left", y.fewest(0), 2);
        y.shunt(2, 1);
        y.shunt(1, 1);
        CHECK.due("12 cycles", y.laneIs(1, 6), 12);
        CHECK.due("at a lift's front without cycles", y.fewest(1), Check.NONE);
        CHECK.due("behind it", y.fewest(2), Check.NONE);
        y.undo();
        CHECK.due("one cycle is left for one of two", y.fewest(2), 0);
        CHECK.due("the row's first", y.fewest(0), 1);
        y.breaks(1, true);
        CHECK.due("to a broken one", y.fewest(0), Check.NONE);
    }

    private static void step() {
        CHECK.promise(18);
        CHECK.words("SHUNT i of FEWEST.");
        CellarCars x = new CellarCars();
        x.lane(0, 9, 9, 99);
        x.lane(0, 9, 9, 99);
        x.lane(0, 9, 9, 99);
        Check.cars(x, 3, 1, 1, 1);
        x.park(2, 0);
        x.park(1, 0);
        x.park(0, 0);
        CHECK.due("no keys", x.step(2, 0), Check.NONE);
        Check.keysForAll(x);
        CHECK.due("step(2, 0)", x.step(2, 0), 1);
        CHECK.due("step(2, 1)", x.step(2, 1), 9);
        CHECK.due("step(2, 2)", x.step(2, 2), Check.NONE);
        CHECK.due("step(0, 0)", x.step(0, 0), Check.NONE);
        CHECK.due("step(2, far)", x.step(2, Integer.MAX_VALUE), Check.NONE);
        CHECK.due("step(2, -1)", x.step(2, -1), Check.BEYOND);
        CHECK.due("step(3, 0)", x.step(3, 0), Check.BEYOND);
        CHECK.due("step(-1, 0)", x.step(-1, 0), Check.BEYOND);
        x.leave(0);
        CHECK.due("out", x.step(0, 0), Check.NONE);
        CHECK.due("out, below 0", x.step(0, -1), Check.BEYOND);
    }

    private static void proves() {
        CHECK.promise(19);
        CellarCars x = new CellarCars();
        x.lane(0, 9, 9, 99);
        x.lane(0, 9, 9, 99);
        x.lane(1, 9, 5, 99);
        Check.cars(x, 3, 1, 1, 1);
        x.car(3, 9, 1, 1, 0, 0);
        x.park(0, 0);
        x.park(1, 0);
        x.park(2, 0);
        x.note(1, 0, true);
        x.note(2, 3, true);
        CHECK.due("proves(0, 4)", x.proves(0, 4), Check.BEYOND);
        CHECK.due("proves(0, -1)", x.proves(0, -1), Check.BEYOND);
        CHECK.due("proves(4, 0)", x.proves(4, 0), Check.BEYOND);
        CHECK.due("missing", x.proves(0, 0), Check.MISSING);
        CHECK.due("out, and missing", x.proves(3, 0), Check.MISSING);
        Check.fill(x, 0);
        CHECK.due("out", x.proves(3, 0), Check.NONE);
        CHECK.due("nothing told, free", x.proves(2, 0), -1);
        CHECK.due("nothing told, not free", x.proves(1, 0), 0);
        Check.fill(x, 0, 17, 9);
        CHECK.due("no key now", x.proves(0, 0), 0);
        x.hour(3);
        CHECK.due("two", x.proves(0, 0), -1);
        CHECK.due("one of itself", x.proves(1, 0), 1);
        CHECK.due("itself first", x.proves(2, 0), 0);
        Check.fill(x, 0, 17);
        CHECK.due("too few", x.proves(0, 0), 1);
        Check.fill(x, 0, 17, 16, 17, 16, 18, 10);
        CHECK.due("there and back", x.proves(0, 0), -1);
        CHECK.due("nothing is done", x.at(0, 2), 2);
        Check.fill(x, 0, 17, 17);
        CHECK.due("where it is", x.proves(1, 0), 1);
        int[] cannot = {19, 23, -1, -7, 24, 33, 64, 65, 1000, Integer.MIN_VALUE, Integer.MAX_VALUE};
        for (int shunt : cannot) {
            Check.fill(x, 0, 17, shunt);
            CHECK.due("told as " + shunt, x.proves(1, 0), 1);
        }
        Check.fill(x, 0, 18, 16, 18, 16, 18, 16, 18, 16, 18, 16, 18, 16, 18);
        CHECK.due("a thirteenth cycle", x.proves(1, 0), 12);
        Check.fill(x, 1, 10);
        x.text(1);
        CHECK.due("rules are not asked", x.proves(1, 0), 12);
        Check.fill(x, 0, 18);
        CHECK.due("to the lift", x.proves(1, 0), -1);
        x.breaks(2, true);
        CHECK.due("to the broken lift", x.proves(1, 0), 0);
        x.sheet(2, 8, 1);
        x.put(2, 0, 256 + 17);
        CHECK.due("of 8 bits", x.proves(1, 2), -1);
    }
}
