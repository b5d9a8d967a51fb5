/** Promises 32 to 37: porters, looks, rules. */
public final class PortersRulesTest {
    private static final Check CHECK = new Check();

    public static void main(String[] args) {
        porter();
        look();
        harm();
        harmWithinSixty();
        text();
        wrong();
        lets();
        letsByFacts();
        CHECK.end();
    }

    /** Two rows and two cars with keys in the first one. */
    private static CellarCars desk() {
        CellarCars x = new CellarCars();
        x.lane(0, 30, 9, 99);
        x.lane(0, 30, 9, 99);
        Check.cars(x, 3, 1, 1);
        Check.keysForAll(x);
        x.park(0, 0);
        x.park(1, 0);
        return x;
    }

    private static void shunts(CellarCars x, int car, int porter, int times) {
        x.porter(porter);
        for (int i = 0; i < times; i++) {
            x.shunt(car, 1 - x.carIs(car, 6));
        }
    }

    private static void rule(CellarCars x, int... signs) {
        Check.fill(x, 3, signs);
        x.text(3);
    }

    private static void porter() {
        CHECK.promise(32);
        CHECK.words("A PORTER is ON: who was. BEYOND.");
        CellarCars x = new CellarCars();
        CHECK.due("porter(3)", x.porter(3), 0);
        CHECK.due("porter(4)", x.porter(4), Check.BEYOND);
        CHECK.due("porter(-1)", x.porter(-1), Check.BEYOND);
        CHECK.due("porter(1)", x.porter(1), 3);
        CHECK.due("porter(1) again", x.porter(1), 1);
    }

    private static void look() {
        CHECK.promise(33);
        CHECK.words("A LOOK at a CAR: how many SHUNTS and LOOKS are led. BEYOND.");
        CellarCars x = desk();
        CHECK.due("look(2, true)", x.look(2, true), Check.BEYOND);
        CHECK.due("look(-1, true)", x.look(-1, true), Check.BEYOND);
        CHECK.due("look(0, true)", x.look(0, true), 1);
        CHECK.due("look(1, false)", x.look(1, false), 2);
        shunts(x, 1, 0, 3);
        CHECK.due("look(1, false) among shunts", x.look(1, false), 6);
        for (int i = 7; i <= 60; i++) {
            CHECK.due("look " + i, x.look(0, false), i);
        }
        CHECK.due("60 at most", x.look(0, false), 60);
        shunts(x, 1, 0, 1);
        CHECK.due("60 with a shunt", x.all(5), 60);
        CHECK.due("shunts ever", x.all(3), 4);
    }

    private static void harm() {
        CHECK.promise(34);
        CHECK.words("What a PORTER has of a sum for HARM of a CAR.");
        CellarCars x = desk();
        CHECK.due("no looks", x.harm(1, 0, 100), Check.NONE);
        x.look(1, true);
        shunts(x, 1, 3, 1);
        x.look(1, true);
        CHECK.due("never unharmed", x.harm(1, 3, 100), Check.NONE);
        x.look(1, false);
        x.look(1, true);
        CHECK.due("no shunt between", x.harm(1, 3, 100), Check.NONE);
        x.look(1, false);
        shunts(x, 1, 3, 2);
        shunts(x, 1, 1, 1);
        shunts(x, 0, 2, 2);
        CHECK.due("not seen yet", x.harm(1, 3, 100), Check.NONE);
        x.look(0, true);
        CHECK.due("another was seen", x.harm(1, 3, 100), Check.NONE);
        x.look(1, true);
        shunts(x, 1, 0, 4);
        x.look(1, true);
        CHECK.due("harm(1, 3, 100)", x.harm(1, 3, 100), 66);
        CHECK.due("with what is left", x.harm(1, 1, 100), 34);
        CHECK.due("shunted another", x.harm(1, 2, 100), 0);
        CHECK.due("shunted later", x.harm(1, 0, 100), 0);
        CHECK.due("a sum of 0", x.harm(1, 1, 0), 0);
        CHECK.due("a sum of 1 is left by cutting", x.harm(1, 1, 1), 1);
        CHECK.due("of it the other has none", x.harm(1, 3, 1), 0);
        CHECK.due("the most", x.harm(1, 3, 9999), 6666);
        x.look(0, false);
        CHECK.due("a look at another", x.harm(1, 3, 100), 66);
        int[][] beyond = {{2, 0, 0}, {-1, 0, 0}, {1, 4, 0}, {1, -1, 0}, {1, 0, 10000}, {1, 0, -1}};
        for (int[] a : beyond) {
            CHECK.due("harm beyond", x.harm(a[0], a[1], a[2]), Check.BEYOND);
        }
        x.look(1, false);
        CHECK.due("the latest unharmed look counts", x.harm(1, 3, 100), Check.NONE);
    }

    private static void harmWithinSixty() {
        CellarCars x = desk();
        x.look(1, false);
        shunts(x, 1, 2, 58);
        x.look(1, true);
        CHECK.due("60 are led", x.all(5), 60);
        CHECK.due("all by one", x.harm(1, 2, 9999), 9999);
        x.look(0, true);
        CHECK.due("the unharmed look went out", x.harm(1, 2, 9999), Check.NONE);
        CHECK.due("undone", x.undo(), 15);
        CHECK.due("it is led again", x.harm(1, 2, 9999), 9999);
        CellarCars y = desk();
        for (int i = 0; i < 50; i++) {
            y.look(0, i % 2 == 0);
        }
        y.look(1, false);
        shunts(y, 1, 0, 1);
        y.look(1, true);
        CHECK.due("one shunt", y.harm(1, 0, 99), 99);
        y.look(1, false);
        shunts(y, 1, 0, 2);
        shunts(y, 1, 3, 1);
        y.look(1, true);
        for (int i = 0; i < 53; i++) {
            CHECK.due("porter 0, while older ones go out", y.harm(1, 0, 100), 67);
            CHECK.due("porter 3, while older ones go out", y.harm(1, 3, 100), 33);
            y.look(0, false);
        }
        CHECK.due("the first of them stays to the last", y.harm(1, 0, 100), 67);
        y.look(0, false);
        y.look(0, false);
        y.look(0, false);
        CHECK.due("it went out", y.harm(1, 0, 100), Check.NONE);
    }

    private static void text() {
        CHECK.promise(35);
        CHECK.words("The text becomes the numbers of a sheet: how many.");
        CellarCars x = desk();
        CHECK.due("text(4)", x.text(4), Check.BEYOND);
        CHECK.due("text(-1)", x.text(-1), Check.BEYOND);
        CHECK.due("text(0)", x.text(0), Check.MISSING);
        x.sheet(0, 8, 17);
        CHECK.due("too long, and no signs", x.text(0), Check.SIZE);
        x.sheet(0, 8, 16);
        CHECK.due("0 is no sign", x.text(0), Check.BEYOND);
        for (int v = -1; v <= 60; v++) {
            boolean sign = v >= 1 && v <= 6 || v >= 10 && v <= 33 || v >= 40 && v <= 44;
            Check.fill(x, 1, v);
            CHECK.due("sign " + v, x.text(1), sign ? 1 : Check.BEYOND);
        }
        int[] signs = new int[16];
        java.util.Arrays.fill(signs, 42);
        signs[0] = 10;
        Check.fill(x, 1, signs);
        CHECK.due("16 signs", x.text(1), 16);
        CHECK.due("they stand", x.wrong(), -1);
        x.put(1, 1, 7);
        CHECK.due("a wrong one", x.text(1), Check.BEYOND);
        CHECK.due("the text stays as it was", x.wrong() + x.lets(1, 1, 0), 0);
        Check.fill(x, 1, 10);
        CHECK.due("a sheet that changes does not change the text", x.lets(1, 1, 0), 1);
        Check.fill(x, 1);
        CHECK.due("an empty one", x.text(1), 0);
        CHECK.due("lets all", x.lets(1, 1, 0), 1);
    }

    private static void wrong() {
        CHECK.promise(36);
        CHECK.words("Whether the text is RIGHT: -1 (no finding; of an empty one, too);");
        CellarCars x = desk();
        CHECK.due("empty", x.wrong(), -1);
        int[][] texts = {{10}, {40}, {42}, {10, 40}, {10, 11, 40}, {10, 11}, {10, 11, 12, 13, 14},
            {10, 11, 12, 13, 14, 15}, {1, 2, 3, 4, 5, 43, 43, 43, 43}, {1, 2, 3, 4, 5, 43, 6, 44},
            {10, 42, 42, 41}, {1, 2, 3, 4, 5, 6, 40}, {10, 11, 43, 44}};
        int[] due = {-1, 0, 0, 1, -1, 2, 5, 5, -1, 8, 3, 5, 3};
        for (int i = 0; i < texts.length; i++) {
            rule(x, texts[i]);
            CHECK.due("text " + i, x.wrong(), due[i]);
        }
    }

    private static void lets() {
        CHECK.promise(37);
        CHECK.words("Whether a CAR's SHUNT to a LANE is LET in an hour: 1, 0. BEYOND.");
        CellarCars x = desk();
        CHECK.due("an empty text lets all", x.lets(0, 1, 23), 1);
        CHECK.due("to its own lane too", x.lets(0, 0, 23), 1);
        int[][] beyond = {{2, 0, 0}, {-1, 0, 0}, {0, 2, 0}, {0, -1, 0}, {0, 0, 24}, {0, 0, -1}};
        for (int[] a : beyond) {
            CHECK.due("lets beyond", x.lets(a[0], a[1], a[2]), Check.BEYOND);
        }
        int[][] let = {{11}, {33}, {10, 11, 40}, {12, 12, 41}, {10, 42}, {12, 33, 43}, {10, 33, 44},
            {33, 10, 44}, {33, 33, 44}, {10, 42, 11, 41}, {10, 12, 40, 11, 41}, {12, 12, 43, 11, 41},
            {12, 12, 44, 11, 41}, {12, 12, 41, 11, 41}, {10, 10, 10, 11, 12, 40, 44, 44, 44},
            {10, 11, 10, 10, 10, 43, 44, 44, 44}, {11, 12, 13, 14, 15, 43, 43, 43, 43}};
        int[][] notLet = {{10}, {11, 10, 40}, {11, 11, 40}, {11, 12, 41}, {33, 42}, {10, 11, 43},
            {11, 10, 43}, {10, 10, 44}, {11, 11}, {42, 11}, {11, 11, 11, 11, 11, 11},
            {10, 10, 10, 12, 11, 40, 44, 44, 44}, {11, 12, 13, 14, 10, 43, 43, 43, 43},
            {11, 42, 11, 41}};
        for (int i = 0; i < let.length; i++) {
            rule(x, let[i]);
            CHECK.due("text that lets " + i, x.lets(0, 1, 0), 1);
        }
        for (int i = 0; i < notLet.length; i++) {
            rule(x, notLet[i]);
            CHECK.due("text that lets not " + i, x.lets(0, 1, 0), 0);
        }
    }

    private static void letsByFacts() {
        int[] facts = {0, 9, 7, 21, 1, 2, 3};
        for (int sign = 1; sign <= 6; sign++) {
            CellarCars x = new CellarCars();
            x.lane(3, 9, 9, 99);
            x.lane(2, 9, 9, 99);
            x.car(7, 5, 21, 11, 3, 4);
            x.porter(3);
            for (int v = 0; v < 24; v++) {
                rule(x, sign, 10 + v, 41);
                CHECK.due("sign " + sign + " is " + v, x.lets(0, 1, 9), facts[sign] == v ? 1 : 0);
            }
        }
    }
}
