/** Promises 44 to 48: sheets, the whole. */
public final class SheetsWholeTest {
    private static final Check CHECK = new Check();

    public static void main(String[] args) {
        sheet();
        put();
        copy();
        undo();
        undoOfEachAct();
        all();
        CHECK.end();
    }

    private static void sheet() {
        CHECK.promise(44);
        CHECK.words("A sheet has n numbers, all 0, of 8, 16 or 32 bits;");
        CellarCars x = new CellarCars();
        CHECK.due("sheet(4, 8, 1)", x.sheet(4, 8, 1), Check.BEYOND);
        CHECK.due("sheet(-1, 8, 1)", x.sheet(-1, 8, 1), Check.BEYOND);
        int[] wrongBits = {-1, 1, 7, 9, 24, 31, 33, 64};
        for (int bits : wrongBits) {
            CHECK.due("of " + bits + " bits", x.sheet(0, bits, 1), Check.BEYOND);
            CHECK.due("of " + bits + " bits, below 0", x.sheet(0, bits, -1), Check.BEYOND);
        }
        CHECK.due("below 0", x.sheet(0, 8, -1), Check.SIZE);
        CHECK.due("above 20", x.sheet(0, 8, 21), Check.BEYOND);
        CHECK.due("still missing", x.text(0), Check.MISSING);
        CHECK.due("sheet(0, 8, 20)", x.sheet(0, 8, 20), 20);
        CHECK.due("sheet(1, 16, 0)", x.sheet(1, 16, 0), 0);
        CHECK.due("it is empty", x.text(1), 0);
        CHECK.due("sheet(2, 32, 3)", x.sheet(2, 32, 3), 3);
        x.put(2, 0, 11);
        x.put(2, 1, 11);
        x.put(2, 2, 43);
        CHECK.due("three signs", x.text(2), 3);
        CHECK.due("again", x.sheet(2, 32, 1), 1);
        CHECK.due("all are 0", x.text(2), Check.BEYOND);
        CHECK.due("bits 0", x.sheet(2, 0, 3), 0);
        CHECK.due("missing again", x.text(2), Check.MISSING);
        CHECK.due("bits 0, below 0", x.sheet(2, 0, -1), Check.SIZE);
        CHECK.due("bits 0, above 20", x.sheet(2, 0, 21), Check.BEYOND);
    }

    private static void put() {
        CHECK.promise(45);
        CellarCars x = new CellarCars();
        CHECK.due("put(4, 0, 1)", x.put(4, 0, 1), Check.BEYOND);
        CHECK.due("put(-1, 0, 1)", x.put(-1, 0, 1), Check.BEYOND);
        CHECK.due("missing", x.put(3, -1, 1), Check.MISSING);
        x.sheet(3, 8, 1);
        CHECK.due("put(3, 1, 1)", x.put(3, 1, 1), Check.BEYOND);
        CHECK.due("put(3, -1, 1)", x.put(3, -1, 1), Check.BEYOND);
        CHECK.due("put(3, 0, 11)", x.put(3, 0, 11), 0);
        CHECK.due("text(3)", x.text(3), 1);
        int[] bits = {8, 16, 32};
        for (int b : bits) {
            x.sheet(3, b, 1);
            for (int high = 7; high < 32; high++) {
                x.put(3, 0, 1 << high | 11);
                CHECK.due(b + " bits, bit " + high, x.text(3), high >= b ? 1 : Check.BEYOND);
            }
        }
    }

    private static void copy() {
        CHECK.promise(46);
        CellarCars x = new CellarCars();
        CHECK.due("copy(4, 0, 0, 0, 0)", x.copy(4, 0, 0, 0, 0), Check.BEYOND);
        CHECK.due("copy(0, 0, 4, 0, 0)", x.copy(0, 0, 4, 0, 0), Check.BEYOND);
        CHECK.due("copy(-1, 0, 0, 0, 0)", x.copy(-1, 0, 0, 0, 0), Check.BEYOND);
        CHECK.due("copy(0, 0, -1, 0, 0)", x.copy(0, 0, -1, 0, 0), Check.BEYOND);
        CHECK.due("both missing", x.copy(0, 0, 1, 0, 0), Check.MISSING);
        Check.fill(x, 0, 11, 10, 42, 43);
        CHECK.due("to one that is missing", x.copy(0, 0, 1, 0, 0), Check.MISSING);
        CHECK.due("from one that is missing", x.copy(1, 0, 0, 0, 0), Check.MISSING);
        x.sheet(1, 16, 9);
        CHECK.due("of other bits", x.copy(0, 0, 1, 0, -1), Check.KIND);
        x.sheet(1, 32, 2);
        int[][] beyond = {{0, 0, 3}, {3, 0, 2}, {0, 1, 2}, {-1, 0, 1}, {0, -1, 1}, {0, 0, -1},
            {5, 0, 0}, {0, 3, 0}, {1, 0, Integer.MAX_VALUE}, {Integer.MAX_VALUE, 0, 1},
            {Integer.MAX_VALUE, Integer.MAX_VALUE, Integer.MAX_VALUE}, {0, Integer.MIN_VALUE, 1}};
        for (int[] a : beyond) {
            CHECK.due("copy(0, " + a[0] + ", 1, " + a[1] + ", " + a[2] + ")",
                    x.copy(0, a[0], 1, a[1], a[2]), Check.BEYOND);
        }
        CHECK.due("nothing, at the ends", x.copy(0, 4, 1, 2, 0), 0);
        CHECK.due("nothing was changed", x.text(1), Check.BEYOND);
        CHECK.due("two", x.copy(0, 1, 1, 0, 2), 2);
        CHECK.due("they came", x.text(1), 2);
        x.lane(0, 9, 9, 99);
        x.car(1, 1, 1, 1, 1, 1);
        CHECK.due("as they were", x.lets(0, 0, 0), 1);
        CHECK.due("within one sheet, to later ones", x.copy(0, 0, 0, 1, 3), 3);
        x.text(0);
        CHECK.due("11 11 10 42", x.wrong(), 4);
        x.sheet(0, 32, 4);
        Check.fill(x, 0, 10, 11, 42, 42);
        x.copy(0, 1, 0, 0, 3);
        x.text(0);
        CHECK.due("11 42 42 42", x.wrong() * 10 + x.lets(0, 0, 0), -10);
    }

    private static void undo() {
        CHECK.promise(47);
        CellarCars x = new CellarCars();
        CHECK.due("nothing to undo", x.undo(), Check.NONE);
        x.sheet(0, 8, 1);
        x.put(0, 0, 11);
        x.copy(0, 0, 0, 0, 1);
        x.all(0);
        x.lane(9, 9, 9, 9);
        CHECK.due("sheets, questions, findings are not undone", x.undo(), Check.NONE);
        for (int v = 1; v <= 20; v++) {
            x.hour(v);
        }
        for (int left = 15; left >= 0; left--) {
            CHECK.due("undo", x.undo(), left);
        }
        CHECK.due("16 are kept", x.undo(), Check.NONE);
        CHECK.due("the hour of the fourth", x.hour(0), 4);
        CHECK.due("one more", x.undo(), 0);
        x.text(0);
        x.sheet(0, 8, 2);
        CHECK.due("of the text", x.undo(), 0);
        CHECK.due("the sheet stays", x.put(0, 1, 3), 0);
        x.clear();
        x.clear();
        CHECK.due("such as changed nothing are kept", x.undo(), 1);
    }

    /** What can be asked of a desk, as one text. */
    private static String seen(CellarCars x) {
        StringBuilder seen = new StringBuilder();
        for (int lane = 0; lane < 5; lane++) {
            for (int what = 0; what < 8; what++) {
                seen.append(x.laneIs(lane, what)).append(' ').append(x.at(lane, what)).append(' ');
            }
        }
        for (int car = 0; car < 8; car++) {
            for (int what = 0; what < 8; what++) {
                seen.append(x.carIs(car, what)).append(' ');
            }
            seen.append(x.fewest(car)).append(' ').append(x.planned(car)).append(' ');
            seen.append(x.harm(car, 0, 100)).append(' ').append(x.key(car, 20, x.all(4))).append(' ');
            seen.append(x.rescued(car)).append(' ').append(x.lets(car, 0, 5)).append(' ');
        }
        for (int tenant = 0; tenant < 5; tenant++) {
            seen.append(x.given(tenant)).append(' ').append(x.rent(tenant)).append(' ');
        }
        for (int what = 0; what < 6; what++) {
            seen.append(x.all(what)).append(' ');
        }
        return seen.append(x.plan()).append(' ').append(x.charged()).append(' ').append(x.charging(0))
            .append(' ').append(x.giving()).append(' ').append(x.wrong()).append(' ').append(x.rescue())
            .append(' ').append(x.morning(-1)).toString();
    }

    private static CellarCars desk() {
        CellarCars x = new CellarCars();
        x.lane(0, 9, 9, 99);
        x.lane(1, 9, 9, 99);
        Check.cars(x, 2, 5, 7, 9);
        Check.keysForAll(x);
        x.park(0, 0);
        x.park(1, 0);
        x.look(1, false);
        x.arrive(2);
        x.tell(0, 1, 3);
        x.bid(0, 0, 5);
        Check.fill(x, 0, 11);
        Check.fill(x, 1, 10);
        x.text(0);
        return x;
    }

    private static int act(CellarCars x, int which) {
        switch (which) {
            case 0: return x.lane(3, 9, 9, 9);
            case 1: return x.breaks(1, true);
            case 2: return x.car(1, 1, 1, 1, 1, 1);
            case 3: return x.tell(0, 2, 9);
            case 4: return x.park(2, 1);
            case 5: return x.shunt(1, 1);
            case 6: return x.leave(1);
            case 7: return x.night();
            case 8: return x.hour(7);
            case 9: return x.arrive(0);
            case 10: return x.clear();
            case 11: return x.chargers(0);
            case 12: return x.bid(1, 0, 99);
            case 13: return x.porter(2);
            case 14: return x.look(1, true);
            case 15: return x.text(1);
            case 16: return x.flood(0, 0);
            case 17: return x.pace(30);
            default: return x.note(1, 1, false);
        }
    }

    private static void undoOfEachAct() {
        for (int which = 0; which <= 18; which++) {
            CellarCars x = desk();
            String before = seen(x);
            CHECK.that("act " + which + " answers no finding", act(x, which) > -100000);
            CHECK.due("undo of act " + which, x.undo(), 15);
            CHECK.that("all is as it was ahead of act " + which, seen(x).equals(before));
        }
        CellarCars x = desk();
        x.hour(7);
        x.porter(2);
        x.pace(30);
        x.flood(0, 1);
        x.chargers(3);
        for (int i = 0; i < 5; i++) {
            x.undo();
        }
        CHECK.due("the hour is back", x.hour(1), 0);
        CHECK.due("the porter is back", x.porter(1), 0);
        CHECK.due("the pace is back", x.pace(1), 10);
        CHECK.due("the minute is back", x.flood(0, 1), 100);
        CHECK.due("the chargers are back", x.chargers(1), 1);
        x.night();
        x.undo();
        CHECK.due("the hour is back behind a night", x.hour(1), 1);
        x.arrive(0);
        x.clear();
        x.arrive(1);
        x.undo();
        x.undo();
        CHECK.due("the evening is back", x.arrive(2), Check.TAKEN);
        CHECK.due("with both of its cars", x.arrive(0), Check.TAKEN);
        CHECK.due("and no other", x.arrive(1), 3);
    }

    private static void all() {
        CHECK.promise(48);
        CellarCars x = desk();
        x.shunt(1, 1);
        int[] due = {2, 3, 2, 1, 3, 2, 0};
        for (int what = 0; what < 7; what++) {
            CHECK.due("all(" + what + ")", x.all(what), due[what]);
        }
        CHECK.due("all(7)", x.all(7), Check.BEYOND);
        CHECK.due("it is counted", x.all(6), 1);
        CHECK.due("all(-1)", x.all(-1), Check.BEYOND);
        x.undo();
        CHECK.due("undo takes no finding back", x.all(6), 2);
        CHECK.due("undo takes the shunt back", x.all(3), 0);
        CHECK.due("and does not lead it", x.all(5), 1);
        CHECK.due("-1 is no finding", x.wrong() + x.carIs(2, 6) + x.all(6), 0);
        x.leave(2);
        x.at(0, 9);
        x.copy(0, 0, 9, 0, 0);
        CHECK.due("all acts are counted", x.all(6), 5);
    }
}
