/** Promises 25 to 27: charge. */
public final class ChargeTest {
    private static final Check CHECK = new Check();

    public static void main(String[] args) {
        chargers();
        charged();
        charging();
        CHECK.end();
    }

    /** A desk with cars in one long lane: hour and need of each. */
    private static CellarCars desk(int[]... cars) {
        CellarCars x = new CellarCars();
        x.lane(0, 30, 30, 99);
        for (int[] car : cars) {
            int number = x.car(1, 1, 1, car[0], car[1], 0);
            x.park(number, 0);
        }
        return x;
    }

    private static void chargers() {
        CHECK.promise(25);
        CHECK.words("CHARGERS: how many there were. BEYOND.");
        CellarCars x = new CellarCars();
        CHECK.due("chargers(3)", x.chargers(3), 1);
        CHECK.due("chargers(4)", x.chargers(4), Check.BEYOND);
        CHECK.due("chargers(-1)", x.chargers(-1), Check.BEYOND);
        CHECK.due("chargers(0)", x.chargers(0), 3);
        CHECK.due("chargers(1)", x.chargers(1), 0);
    }

    private static void charged() {
        CHECK.promise(26);
        CHECK.words("CHARGED, as bits.");
        CHECK.due("hours below its hour", desk(new int[] {5, 5}).charged(), 1);
        CHECK.due("one hour too few", desk(new int[] {5, 6}).charged(), 0);
        CHECK.due("no need", desk(new int[] {5, 0}).charged(), 0);
        CHECK.due("one hour for two: the least", desk(new int[] {1, 1}, new int[] {1, 1}).charged(), 1);
        CHECK.due("the most cars", desk(new int[] {6, 6}, new int[] {3, 3}, new int[] {6, 3}).charged(), 6);
        CHECK.due("of several the least",
                desk(new int[] {2, 2}, new int[] {3, 2}, new int[] {3, 1}).charged(), 5);
        CellarCars x = desk(new int[] {2, 2}, new int[] {2, 2}, new int[] {2, 2}, new int[] {2, 2});
        x.chargers(2);
        CHECK.due("two chargers", x.charged(), 3);
        x.chargers(3);
        CHECK.due("three chargers", x.charged(), 7);
        x.leave(3);
        x.leave(2);
        x.leave(1);
        x.leave(0);
        CHECK.due("out", x.charged(), 0);
        x.park(3, 0);
        CHECK.due("the last", x.charged(), 8);
        x.chargers(0);
        CHECK.due("no chargers", x.charged(), 0);
        CellarCars y = desk(new int[] {9, 9}, new int[] {9, 9});
        y.chargers(3);
        CHECK.due("one charger each at a time", y.charged(), 3);
        y.tell(0, 0, 8);
        CHECK.due("not two for one", y.charged(), 2);
    }

    private static void charging() {
        CHECK.promise(27);
        CHECK.words("Which CARS are charged in an hour by THE HOURS, as bits. BEYOND.");
        CellarCars x = desk(new int[] {3, 1}, new int[] {3, 2}, new int[] {23, 2});
        CHECK.due("charging(24)", x.charging(24), Check.BEYOND);
        CHECK.due("charging(-1)", x.charging(-1), Check.BEYOND);
        CHECK.due("charging(23)", x.charging(23), 0);
        CHECK.due("charging(22)", x.charging(22), 4);
        CHECK.due("charging(21)", x.charging(21), 4);
        CHECK.due("charging(20)", x.charging(20), 0);
        CHECK.due("charging(3)", x.charging(3), 0);
        CHECK.due("needs most", x.charging(2), 2);
        CHECK.due("of like ones the least number", x.charging(1), 1);
        CHECK.due("the rest", x.charging(0), 2);
        x.chargers(2);
        CHECK.due("two at once", x.charging(2), 3);
        CHECK.due("then one", x.charging(1), 2);
        CHECK.due("then none", x.charging(0), 0);
        CellarCars y = desk(new int[] {1, 1}, new int[] {1, 1});
        CHECK.due("only those of charged", y.charging(0), 1);
        y.chargers(0);
        CHECK.due("no chargers", y.charging(0), 0);
    }
}
