/** Terms 3 to 9, sentence by sentence: charge, rents, porters, rules, floods, keys and sheets at their bounds. */
public final class EdgesDeskTest {
    private static final Check CHECK = new Check();
    private static final String CAR = "car(1, 1, 1, 0, 0, 0)\n";

    /** A sheet (1) of so many bits (4) that is full, empty and missing, beside two others (2, 3). */
    private static final String SHEETS = """
        text(%1$d) = MISSING; sheet(%1$d, %4$d, 20) = 20; put(%1$d, 19, 11) = 0; put(%1$d, 20, 11) = BEYOND
        text(%1$d) = SIZE; copy(%1$d, 19, %1$d, 0, 1) = 1; sheet(%2$d, %4$d, 1) = 1; text(%2$d) = BEYOND
        copy(%1$d, 0, %2$d, 0, 1) = 1; text(%2$d) = 1; lets(0, 0, 0) = 1
        sheet(%1$d, %4$d, 0) = 0; text(%1$d) = 0; put(%1$d, 0, 1) = BEYOND; text(%2$d) = 1; text(%3$d) = MISSING
        sheet(%1$d, %4$d, 1) = 1; text(%1$d) = BEYOND; put(%1$d, 0, 10); text(%1$d) = 1
        sheet(%1$d, %4$d, 1); text(%1$d) = BEYOND; put(%1$d, 0, 10); sheet(%1$d, 0, 0) = 0; text(%1$d) = MISSING
        sheet(%1$d, %4$d, 1) = 1; text(%1$d) = BEYOND
        """;

    public static void main(String[] args) {
        chargeOfOne();
        charged();
        hours();
        bids();
        givings();
        rents();
        led();
        harm();
        harmParted();
        rowOfNumbers();
        signs();
        signsOfTheDesk();
        lets();
        minutes();
        rescues();
        rescuedInOrder();
        keys();
        thirtyNotes();
        sheets();
        CHECK.end();
    }

    /** A lane with cars that leave at an hour and need so many hours each. */
    private static String cars(int... hoursAndNeeds) {
        StringBuilder told = new StringBuilder("lane(0, 8, 9, 99)\n");
        for (int i = 0; i < hoursAndNeeds.length; i += 2) {
            told.append("car(1, 1, 1, %d, %d, 0); park(%d, 0)\n".formatted(hoursAndNeeds[i], hoursAndNeeds[i + 1],
                i / 2));
        }
        return told.toString();
    }

    private static void chargeOfOne() {
        CHECK.promise(26);
        CHECK.words("A CAR can be charged in hours below its HOUR, one hour each.");
        for (int hour = 0; hour <= 23; hour++) {
            for (int need = 0; need <= 9; need++) {
                for (int chargers = 0; chargers <= 3; chargers++) {
                    boolean can = need > 0 && need <= hour && chargers > 0;
                    Run run = CHECK.run(cars(hour, need) + "chargers(" + chargers + "); charged() = "
                        + (can ? 1 : 0));
                    for (int h = 0; h < 24; h++) {
                        run.told("charging(" + h + ") = " + (can && h < hour && h >= hour - need ? 1 : 0));
                    }
                }
            }
        }
    }

    private static void charged() {
        CHECK.promise(26);
        CHECK.words("CHARGED: the set of CARS with the most (of those with a NEED above 0 that are in LANES) "
            + "that can all have their NEED; of several the least as bits.");
        CHECK.run("charged() = 0; car(1, 1, 1, 23, 1, 0); charged() = 0; lane(0, 9, 9, 99); charged() = 0; "
            + "park(0, 0); charged() = 1\n"
            + "tell(0, 1, 0); charged() = 0; undo(); charged() = 1; leave(0); charged() = 0");
        String eight = cars(23, 9, 23, 9, 23, 9, 23, 9, 23, 9, 23, 9, 23, 9, 23, 9);
        CHECK.run(eight + "charged() = 3; chargers(0); charged() = 0; chargers(2); charged() = 31; chargers(3); "
            + "charged() = 127\n"
            + "tell(0, 1, 7); charged() = 127; tell(0, 1, 6); charged() = 255; tell(0, 1, 0); charged() = 254; "
            + "tell(0, 0, 0); charged() = 254");
        CHECK.run(cars(10, 9, 10, 5, 10, 5, 10, 1) + "charged() = 6; tell(2, 1, 6); charged() = 9");
        CHECK.run(cars(1, 1, 1, 1, 2, 1) + "charged() = 5; tell(0, 0, 0); charged() = 6; tell(2, 0, 1); "
            + "charged() = 2; chargers(2); charged() = 6");
        CHECK.run(cars(2, 2, 2, 1, 2, 1) + "charged() = 6; tell(2, 1, 2); charged() = 1; chargers(3); "
            + "charged() = 7; chargers(2); charged() = 3");
        CHECK.run(cars(4, 4, 3, 3, 2, 2, 1, 1) + "charged() = 1; chargers(2); charged() = 3; chargers(3); "
            + "charged() = 7");
    }

    private static void hours() {
        CHECK.promise(27);
        CHECK.words("THE HOURS: hour by hour from 23 back to 0, of those of CHARGED whose HOUR is above it and "
            + "that need more still, "
            + "the ones that need most more (of like ones the least number), as many as CHARGERS.");
        due(cars(23, 9, 23, 9), 22, 1, 2, 1, 2, 1, 2, 1, 2, 1, 2, 1, 2, 1, 2, 1, 2, 1, 2, 0);
        due(cars(23, 9, 22, 9), 23, 0, 1, 2, 1, 2, 1, 2, 1, 2, 1, 2, 1, 2, 1, 2, 1, 2, 1, 2, 0);
        due(cars(22, 9, 23, 9), 23, 0, 2, 1, 1, 2, 1, 2, 1, 2, 1, 2, 1, 2, 1, 2, 1, 2, 1, 2, 0);
        due(cars(10, 3, 10, 2, 10, 1) + "chargers(2)", 10, 0, 3, 3, 5, 0);
        due(cars(10, 3, 10, 2, 10, 1) + "chargers(3)", 10, 0, 7, 3, 1, 0);
        due(cars(10, 3, 10, 2, 10, 1), 10, 0, 1, 1, 2, 1, 2, 4, 0);
        due(cars(10, 1, 10, 2, 10, 3), 10, 0, 4, 2, 4, 1, 2, 4, 0);
        due(cars(1, 1, 1, 1, 1, 1, 1, 1) + "chargers(3)", 1, 0, 7);
        due(cars(1, 1, 1, 1, 1, 1, 1, 1), 1, 0, 1);
        due(cars(3, 3, 2, 2, 1, 1), 3, 0, 1, 1, 1);
        due(cars(3, 3, 2, 2, 1, 1) + "chargers(2)", 3, 0, 1, 3, 3);
    }

    /** What is charged in an hour, in the one below it, .. */
    private static void due(String desk, int first, int... sets) {
        Run run = CHECK.run(desk);
        for (int i = 0; i < sets.length; i++) {
            run.told("charging(" + (first - i) + ") = " + sets[i]);
        }
    }

    private static void bids() {
        CHECK.promise(28);
        CHECK.words("A BID becomes v: what it was. BEYOND.");
        Run run = CHECK.run("");
        for (int i = 0; i < 25; i++) {
            run.told("bid(" + i / 5 + ", " + i % 5 + ", " + (999 - i) + ") = 0");
        }
        for (int i = 0; i < 25; i++) {
            run.told("bid(%1$d, %2$d, 0) = %3$d; bid(%1$d, %2$d, 999) = 0".formatted(i / 5, i % 5, 999 - i));
        }
        run.told("giving() = 4995; given(0) = 0; given(4) = 4; rent(0) = 0; rent(4) = 0");
    }

    private static void givings() {
        CHECK.promise(29);
        CHECK.words("THE GIVING: each TENANT has another PLACE, so that BIDS together are the most; of several "
            + "the first by TENANTS, by PLACES' numbers.");
        CHECK.run("giving() = 0; given(0) = 0; given(1) = 1; given(2) = 2; given(3) = 3; given(4) = 4");
        CHECK.run("bid(4, 0, 1); giving() = 1; given(4) = 0; given(0) = 1; given(1) = 2; given(2) = 3; "
            + "given(3) = 4");
        CHECK.run("bid(0, 4, 1); giving() = 1; given(0) = 4; given(1) = 0; given(2) = 1; given(3) = 2; "
            + "given(4) = 3");
        CHECK.run("bid(0, 0, 999); bid(1, 0, 999); giving() = 999; given(0) = 0; given(1) = 1; bid(0, 1, 1); "
            + "giving() = 1000; given(0) = 1; given(1) = 0\n"
            + "bid(1, 1, 1); giving() = 1000; given(0) = 0; given(1) = 1; bid(1, 1, 2); giving() = 1001; "
            + "given(0) = 0");
        CHECK.run("bid(0, 1, 5); bid(0, 2, 5); bid(1, 1, 5); bid(1, 2, 5); giving() = 10; given(0) = 1; "
            + "given(1) = 2; given(2) = 0; given(3) = 3; given(4) = 4");
        CHECK.promise(31);
        CHECK.words("BIDS by THE GIVING together.");
        CHECK.run("bid(0, 4, 999); bid(1, 3, 999); bid(2, 2, 999); bid(3, 1, 999); bid(4, 0, 999); "
            + "giving() = 4995; given(0) = 4; given(4) = 0");
    }

    private static void rents() {
        CHECK.promise(30);
        CHECK.words("RENT of a TENANT: what all others together could have more of BIDS, if it were not there "
            + "(each of the others another PLACE, one PLACE left), than they have by THE GIVING.");
        CHECK.run("rent(0) = 0; rent(4) = 0; bid(0, 0, 999); rent(0) = 0; bid(1, 0, 999); rent(0) = 999; "
            + "rent(1) = 0\n"
            + "bid(1, 0, 998); rent(0) = 998; bid(1, 1, 1); rent(0) = 997; rent(1) = 0; bid(2, 0, 999); "
            + "given(0) = 0; rent(0) = 999; rent(2) = 0");
        // Each stands in the way of the next one: the first pays for what the whole chain could have more.
        CHECK.run("bid(0, 0, 50); bid(1, 0, 40); bid(1, 1, 30); bid(2, 1, 25); bid(2, 2, 20); giving() = 100; "
            + "rent(0) = 15; rent(1) = 5; rent(2) = 0");
    }

    private static String shuntsDesk() {
        return "lane(0, 9, 9, 99); lane(0, 9, 9, 99)\n" + CAR.repeat(2) + "note(0, 0, true); note(1, 0, true); "
            + "park(1, 0); park(0, 0)\n";
    }

    /** Car 0 goes to and fro, from lane 0 on, once for each porter. */
    private static String shunts(int... porters) {
        StringBuilder told = new StringBuilder();
        for (int i = 0; i < porters.length; i++) {
            told.append("porter(").append(porters[i]).append("); shunt(0, ").append((i + 1) % 2).append(")\n");
        }
        return told.toString();
    }

    private static void led() {
        CHECK.promise(33);
        CHECK.words("Each SHUNT is led with the PORTER who is ON (by a shunt that was done; the latest 60 of "
            + "all).");
        CHECK.run(shuntsDesk() + "all(5) = 0; shunt(1, 1) = STUCK; shunt(0, 0) = TAKEN; all(5) = 0; leave(0); "
            + "all(5) = 0; park(0, 0); all(5) = 0\n"
            + "shunt(0, 1) = 1; all(5) = 1; look(1, true) = 2; look(2, true) = BEYOND; all(5) = 2; undo(); "
            + "all(5) = 1; undo(); all(5) = 0; all(3) = 0");
        CHECK.words("LOOKS at a CAR: it was harmed, or not; they are led among the SHUNTS.");
        Run run = CHECK.run(shuntsDesk());
        for (int i = 1; i <= 70; i++) {
            run.told("look(" + i % 2 + ", " + (i % 3 == 0) + ") = " + Math.min(i, 60) + "; all(5) = "
                + Math.min(i, 60));
        }
        run.told("shunt(0, 1) = 1; all(5) = 60; undo() = 15; all(5) = 60; all(3) = 0");
    }

    private static void harm() {
        CHECK.promise(34);
        CHECK.words("HARM of a CAR: between the latest LOOK of all at which it was not harmed and the first one "
            + "behind that at which it was");
        CHECK.run(shuntsDesk() + shunts(3) + "look(0, false)\n" + "porter(1); shunt(0, 0)\nlook(0, true); "
            + "porter(2); shunt(0, 1); look(0, true)\n"
            + "harm(0, 1, 9999) = 9999; harm(0, 2, 9999) = 0; harm(0, 3, 9999) = 0; harm(0, 0, 9999) = 0\n"
            + "look(0, false); harm(0, 1, 9) = NONE; porter(0); shunt(0, 0); harm(0, 0, 9) = NONE; "
            + "look(0, true); harm(0, 0, 9) = 9; harm(0, 1, 9) = 0");
        CHECK.run(shuntsDesk() + "look(0, false)\n" + shunts(3) + "look(0, false); porter(1); shunt(0, 0); "
            + "look(1, true); look(1, false); look(0, true)\n"
            + "harm(0, 3, 9) = 0; harm(0, 1, 9) = 9; harm(1, 1, 9) = NONE");
        CHECK.words("(What went out of the 60, LOOKS too, is not led any more.)");
        String desk = shuntsDesk() + "look(0, false)\n" + shunts(1, 2, 3) + "look(0, true) = 5\n"
            + "look(1, false)\n".repeat(55);
        CHECK.run(desk + "all(5) = 60; harm(0, 1, 100) = 34; look(1, false) = 60; harm(0, 1, 100) = NONE; "
            + "undo(); harm(0, 1, 100) = 34\n"
            + "shunt(1, 0) = TAKEN; harm(0, 1, 100) = 34; shunt(0, 0) = 4; harm(0, 1, 100) = NONE");
        CHECK.run(shuntsDesk() + "look(0, false)\n".repeat(61) + "all(5) = 60; harm(0, 0, 9) = NONE; "
            + "look(0, true) = 60; harm(0, 0, 9) = NONE");
        CHECK.run(shuntsDesk() + "look(0, false)\n" + "look(1, true)\n".repeat(59) + "all(5) = 60; "
            + "harm(0, 0, 9) = NONE; harm(1, 0, 9) = NONE");
        // The harmed look is the last one led, behind as many shunts as there can be.
        int[] many = new int[58];
        java.util.Arrays.fill(many, 3);
        many[0] = 1;
        CHECK.run(shuntsDesk() + "look(0, false)\n" + shunts(many) + "look(0, true) = 60; "
            + "harm(0, 1, 9999) = 173; harm(0, 3, 9999) = 9826; harm(0, 1, 58) = 1\n"
            + "harm(0, 3, 58) = 57; harm(0, 1, 57) = 1; harm(0, 3, 57) = 56");
    }

    private static void harmParted() {
        CHECK.promise(34);
        CHECK.words("PARTED among the PORTERS of SHUNTS of this CAR between them: a sum (0 to 9999) times a "
            + "PORTER'S SHUNTS, by all of these SHUNTS, cut; what is left by cutting goes to the PORTER with "
            + "the least number of those who have some.");
        String like = shuntsDesk() + "look(0, false)\n" + shunts(3, 2, 1) + "look(0, true)\n";
        CHECK.run(like + "harm(0, 0, 100) = 0; harm(0, 1, 100) = 34; harm(0, 2, 100) = 33; "
            + "harm(0, 3, 100) = 33; harm(0, 1, 0) = 0; harm(0, 3, 0) = 0\n"
            + "harm(0, 1, 1) = 1; harm(0, 2, 1) = 0; harm(0, 1, 2) = 2; harm(0, 2, 2) = 0; harm(0, 1, 3) = 1; "
            + "harm(0, 3, 3) = 1; harm(0, 0, 2) = 0\n"
            + "harm(0, 1, 9998) = 3334; harm(0, 2, 9998) = 3332; harm(0, 1, 9999) = 3333; "
            + "harm(0, 3, 9999) = 3333; harm(0, 1, 10000) = BEYOND; harm(0, 1, -1) = BEYOND");
        CHECK.run(shuntsDesk() + "look(0, false)\n" + shunts(2, 2, 2, 0, 3, 3) + "look(0, true)\n"
            + "harm(0, 0, 10) = 2; harm(0, 2, 10) = 5; harm(0, 3, 10) = 3; harm(0, 1, 10) = 0; "
            + "harm(0, 0, 1) = 1; harm(0, 2, 1) = 0; harm(0, 0, 5) = 2; harm(0, 2, 5) = 2; harm(0, 3, 5) = 1");
    }

    private static String text(int... signs) {
        StringBuilder told = new StringBuilder("sheet(0, 8, " + signs.length + ")\n");
        for (int i = 0; i < signs.length; i++) {
            told.append("put(0, ").append(i).append(", ").append(signs[i]).append(")\n");
        }
        return told.append("text(0) = ").append(signs.length).append('\n').toString();
    }

    private static void rowOfNumbers() {
        CHECK.promise(36);
        CHECK.words("RULES: a text of at most 16 SIGNS, worked out by a row of numbers (at most 5)");
        CHECK.run(text(10, 42, 42, 42, 42, 42, 42, 42, 42, 42, 42, 42, 42, 42, 42, 42) + "wrong() = -1; "
            + "sheet(1, 8, 17); text(1) = SIZE; wrong() = -1");
        CHECK.run(text(10, 11, 12, 13, 14, 43, 43, 43, 43) + "wrong() = -1");
        CHECK.run(text(10, 11, 12, 13, 14, 15, 43, 43, 43, 43, 43) + "wrong() = 5");
        CHECK.words("It is RIGHT if there is always enough, never more than 5, and one at its end.");
        CHECK.run("wrong() = -1; all(6) = 0");
        CHECK.run(text() + "wrong() = -1");
        int[] taking = {40, 41, 43, 44};
        for (int sign : taking) {
            CHECK.run(text(sign) + "wrong() = 0");
            CHECK.run(text(10, sign) + "wrong() = 1");
            CHECK.run(text(10, 10, sign) + "wrong() = -1");
            CHECK.run(text(10, 10, sign, sign) + "wrong() = 3");
            CHECK.run(text(1, 2, 3, 4, 5, sign, sign, sign, sign) + "wrong() = -1");
            CHECK.run(text(1, 2, 3, 4, 5, sign, 6, sign, sign, sign, sign) + "wrong() = -1");
            CHECK.run(text(1, 2, 3, 4, 5, sign, 6, 33, sign) + "wrong() = 7");
        }
        CHECK.run(text(42) + "wrong() = 0");
        CHECK.run(text(10, 42) + "wrong() = -1");
        CHECK.run(text(10, 11, 12, 13, 14, 42, 43, 43, 43, 43) + "wrong() = -1");
        CHECK.words("else the place of the first SIGN with which it goes wrong, or how many it has.");
        for (int n = 1; n <= 16; n++) {
            int[] nots = new int[n];
            java.util.Arrays.fill(nots, 42);
            nots[0] = 33;
            CHECK.run(text(nots) + "wrong() = -1");
            if (n > 1) {
                nots[1] = 10;
                CHECK.run(text(nots) + "wrong() = " + n);
                nots[1] = 42;
                nots[n - 1] = 44;
                CHECK.run(text(nots) + "wrong() = " + (n - 1));
            }
        }
        CHECK.run(text(1, 2, 3, 4, 5, 6, 10, 40, 40, 40) + "wrong() = 5");
    }

    private static void signs() {
        CHECK.promise(37);
        CHECK.words("40: the last but one and the last become 1 if the first is less, else 0; 41 likewise "
            + "equal; 42: the last becomes 1 if 0, else 0; 43: both not 0; 44: one not 0.");
        String desk = "lane(0, 9, 9, 99)\n" + CAR;
        int[] numbers = {0, 1, 2, 22, 23};
        for (int a : numbers) {
            for (int b : numbers) {
                boolean[] holds = {a < b, a == b, b == 0, a != 0 && b != 0, a != 0 || b != 0};
                for (int sign = 40; sign <= 44; sign++) {
                    int is = holds[sign - 40] ? 1 : 0;
                    if (sign == 42) {
                        // The number under it stays as it is.
                        CHECK.run(desk + text(10 + a, 10 + b, 42, 10 + is, 41, 10 + a, 43) + "wrong() = 7");
                        CHECK.run(desk + text(10 + b, 42) + "lets(0, 0, 0) = " + is);
                        CHECK.run(desk + text(10 + a, 10 + b, 42, 41) + "lets(0, 0, 0) = " + (a == is ? 1 : 0));
                    } else {
                        CHECK.run(desk + text(10 + a, 10 + b, sign) + "lets(0, 0, 0) = " + is);
                        CHECK.run(desk + text(10 + a, 10 + b, sign, 10 + is, 41) + "lets(0, 0, 0) = 1");
                        CHECK.run(desk + text(33, 10 + a, 10 + b, sign, 43) + "lets(0, 0, 0) = " + is);
                    }
                }
            }
        }
    }

    private static void signsOfTheDesk() {
        CHECK.words("1 the hour, 2 LENGTH of the CAR, 3 its WEIGHT, 4 the LANE, 5 the LANE'S kind, 6 the PORTER "
            + "who is ON; 10 to 33: 0 to 23;");
        String desk = "lane(3, 9, 9, 99); lane(0, 9, 9, 99); lane(1, 9, 9, 99); lane(0, 9, 9, 99); "
            + "lane(2, 9, 9, 99)\n"
            + "car(9, 8, 23, 7, 6, 5); car(1, 2, 10, 3, 4, 0)\n";
        for (int v = 0; v <= 23; v++) {
            CHECK.run(desk + text(1, 10 + v, 41)
                + "lets(0, 0, 0) = %d; lets(0, 0, 23) = %d; lets(1, 4, 12) = %d; hour(12); lets(1, 4, 0) = %d"
                .formatted(is(v == 0), is(v == 23), is(v == 12), is(v == 0)));
            CHECK.run(desk + text(2, 10 + v, 41)
                + "lets(0, 0, 0) = %d; lets(1, 0, 0) = %d".formatted(is(v == 9), is(v == 1)));
            CHECK.run(desk + text(3, 10 + v, 41)
                + "lets(0, 0, 0) = %d; lets(1, 0, 0) = %d".formatted(is(v == 23), is(v == 10)));
            CHECK.run(desk + text(4, 10 + v, 41) + "lets(0, 0, 0) = %d; lets(0, 4, 0) = %d; lets(0, 2, 0) = %d"
                .formatted(is(v == 0), is(v == 4), is(v == 2)));
            CHECK.run(desk + text(5, 10 + v, 41)
                + "lets(0, 0, 0) = %d; lets(0, 1, 0) = %d; lets(0, 2, 0) = %d; lets(0, 4, 0) = %d"
                .formatted(is(v == 3), is(v == 0), is(v == 1), is(v == 2)));
            CHECK.run(desk + text(6, 10 + v, 41)
                + "lets(0, 0, 0) = %d; porter(3); lets(0, 0, 0) = %d; undo(); lets(0, 0, 0) = %d"
                .formatted(is(v == 0), is(v == 3), is(v == 0)));
        }
        CHECK.run("lane(0, 9, 9, 99); car(1, 1, 99, 0, 0, 0)\n" + text(33, 3, 40) + "lets(0, 0, 0) = 1");
    }

    private static int is(boolean holds) {
        return holds ? 1 : 0;
    }

    private static void lets() {
        CHECK.promise(37);
        CHECK.words("With a RIGHT text a SHUNT in an hour is LET if it ends with a number not 0; an empty text "
            + "lets all; one that is not RIGHT lets none.");
        String desk = shuntsDesk();
        CHECK.run(desk + "lets(0, 0, 0) = 1; lets(1, 1, 23) = 1; shunt(0, 1) = 1");
        CHECK.run(desk + text(10) + "lets(0, 1, 0) = 0; shunt(0, 1) = BARRED");
        CHECK.run(desk + text(33) + "lets(0, 1, 0) = 1; shunt(0, 1) = 1");
        CHECK.run(desk + text(33, 33) + "lets(0, 1, 0) = 0; shunt(0, 1) = BARRED; fewest(1) = 1");
        CHECK.run(desk + text(43) + "lets(0, 1, 0) = 0; shunt(0, 1) = BARRED");
        CHECK.run(desk + text(33, 33, 33, 33, 33, 33) + "lets(0, 1, 0) = 0; shunt(0, 1) = BARRED");
        CHECK.run(desk + text(10) + text() + "lets(0, 1, 0) = 1; shunt(0, 1) = 1; undo(); undo(); "
            + "lets(0, 1, 0) = 0; undo(); lets(0, 1, 0) = 1");
        CHECK.run(desk + text(1) + "lets(0, 1, 0) = 0; lets(0, 1, 1) = 1; lets(0, 1, 23) = 1; "
            + "shunt(0, 1) = BARRED; hour(23); note(0, 23, true); shunt(0, 1) = 1; night(); shunt(0, 0) = BARRED");
    }

    /** A lane of a kind with cars of these worths, the first one behind. */
    private static String worths(int kind, int... worths) {
        StringBuilder told = new StringBuilder("lane(" + kind + ", 8, 9, 99)\n");
        for (int car = 0; car < worths.length; car++) {
            told.append("car(1, 1, 1, 0, 0, ").append(worths[car]).append("); park(").append(car).append(", 0)\n");
        }
        return told.toString();
    }

    private static void minutes() {
        CHECK.promise(38);
        CHECK.words("of LOW ones 60 less, 0 at least) from which on no CAR leaves it");
        CHECK.run(worths(2, 7) + "rescue() = 7; pace(30); rescue() = 7; flood(0, 99) = 100; flood(0, 90) = 99; "
            + "rescue() = 7; flood(0, 89) = 90; rescue() = 0\n"
            + "pace(1); rescue() = 7; flood(0, 61) = 89; rescue() = 7; flood(0, 60) = 61; rescue() = 0; "
            + "flood(0, 59) = 60; rescue() = 0; flood(0, 0) = 59; rescue() = 0");
        CHECK.run(worths(0, 7) + "flood(0, 1); pace(1); rescue() = 7; flood(0, 0); rescue() = 0; flood(0, 10); "
            + "pace(10); rescue() = 7; pace(11); rescue() = 0");
        CHECK.words("the one that is done in MINUTE m (PACE, 2 times PACE, ..) must be from a LANE whose MINUTE "
            + "is not below m.");
        for (int pace = 1; pace <= 30; pace++) {
            for (int kind = 0; kind <= 2; kind += 2) {
                int less = kind == 2 ? 60 : 0;
                Run run = CHECK.run(worths(kind, 1, 1, 1, 1, 1, 1, 1, 1) + "pace(" + pace + ") = 10; "
                    + "flood(0, 0) = 100\n");
                for (int cars = 1; cars <= 8; cars++) {
                    int minute = cars * pace + less;
                    if (minute <= 200) {
                        run.told("flood(0, %d); rescue() = %d".formatted(minute - 1, cars - 1));
                        run.told("flood(0, %d); rescue() = %d".formatted(minute, cars));
                        run.told("rescued(%d) = %d; rescued(%d) = NONE".formatted(cars - 1, 8 - cars, cars));
                    }
                }
                run.told("flood(0, 200); rescue() = " + Math.min(8, (200 - less) / pace) + "; flood(0, 0); "
                    + "rescue() = 0");
            }
        }
    }

    private static void rescues() {
        CHECK.promise(40);
        CHECK.words("A RESCUE: CARS are taken OUT one by one, always from the FRONT of a LANE (not BROKEN), "
            + "without KEYS");
        for (int kind = 1; kind <= 3; kind += 2) {
            CHECK.run(worths(kind, 3, 4) + "rescue() = 7; rescued(0) = 1; rescued(1) = 0; breaks(0, true); "
                + "rescue() = 0; rescued(0) = NONE; breaks(0, false); rescue() = 7\n"
                + "all(2) = 2; carIs(0, 6) = 0; laneIs(0, 6) = 2; all(4) = 0; leave(1); rescue() = 3");
        }
        CHECK.run(worths(0, 99, 99, 99, 99, 99, 99, 99, 99) + "rescue() = 792; rescued(7) = 0; "
            + "rescued(8) = NONE; pace(30); rescue() = 297; pace(1); rescue() = 792");
        CHECK.run("rescue() = 0; lane(0, 9, 9, 99); rescue() = 0; car(1, 1, 1, 0, 0, 99); rescue() = 0; "
            + "park(0, 0); rescue() = 99");
        CHECK.words("THE RESCUE: of all orders that in which WORTH of those taken is the most; of several "
            + "fewest CARS");
        CHECK.run(worths(0, 0, 0, 0) + "rescue() = 0; rescued(0) = NONE; tell(1, 2, 1); rescue() = 1; "
            + "rescued(0) = 2; rescued(1) = 1; rescued(2) = NONE\n"
            + "tell(0, 2, 1); rescue() = 2; rescued(2) = 0; flood(0, 20); rescue() = 1; rescued(1) = 1; "
            + "rescued(2) = NONE; flood(0, 19); rescue() = 0; rescued(0) = NONE");
    }

    private static void rescuedInOrder() {
        CHECK.promise(41);
        CHECK.words("of these the first by LANES' numbers, CAR by CAR.");
        String desk = "lane(0, 9, 9, 99); lane(0, 9, 9, 99); lane(0, 9, 9, 99)\n"
            + "car(1, 1, 1, 0, 0, 5)\n".repeat(4)
            + "park(0, 2); park(1, 1); park(2, 0); park(3, 0)\n";
        CHECK.run(desk + "rescue() = 20; rescued(0) = 3; rescued(1) = 2; rescued(2) = 1; rescued(3) = 0; "
            + "rescued(4) = NONE\n"
            + "flood(1, 29); rescued(0) = 3; rescued(1) = 1; rescued(2) = 2; rescued(3) = 0; flood(2, 10); "
            + "rescued(0) = 0; rescued(1) = 1; rescued(2) = 3\n"
            + "rescued(3) = 2; flood(1, 10); rescue() = 15; rescued(0) = 1; rescued(1) = 3; rescued(2) = 2; "
            + "rescued(3) = NONE");
        CHECK.run(desk + "flood(0, 10); flood(1, 10); flood(2, 10); rescue() = 5; rescued(0) = 3; "
            + "rescued(1) = NONE; tell(0, 2, 6); rescue() = 6; rescued(0) = 0");
        CHECK.run(desk + "flood(0, 20); flood(1, 20); flood(2, 20); rescue() = 10; rescued(0) = 3; "
            + "rescued(1) = 2; tell(3, 2, 4); rescue() = 10; rescued(0) = 1; rescued(1) = 0");
    }

    private static void keys() {
        CHECK.promise(43);
        CHECK.words("KEY of a CAR in an hour, as known behind so many NOTES: by the NOTE from the latest hour "
            + "that is not behind that, of several the latest told; none without.");
        for (int from = 0; from <= 23; from++) {
            Run run = CHECK.run(CAR.repeat(2)
                + "note(0, %1$d, true) = 1; note(0, %1$d, false) = 2; note(0, %1$d, true) = 3".formatted(from));
            for (int hour = 0; hour <= 23; hour++) {
                run.told("key(0, %1$d, 0) = 0; key(0, %1$d, 1) = %2$d; key(0, %1$d, 2) = 0; key(0, %1$d, 3) = %2$d\n"
                    .formatted(hour, is(hour >= from)));
                run.told("key(1, " + hour + ", 3) = 0");
            }
        }
        CHECK.run(CAR + """
            note(0, 23, true); note(0, 0, true); note(0, 12, false); note(0, 11, true); note(0, 13, true)
            note(0, 23, false)
            key(0, 23, 1) = 1; key(0, 22, 1) = 0; key(0, 22, 2) = 1; key(0, 0, 2) = 1; key(0, 11, 3) = 1
            key(0, 12, 3) = 0; key(0, 22, 3) = 0
            key(0, 23, 3) = 1; key(0, 12, 4) = 0; key(0, 11, 4) = 1; key(0, 13, 4) = 0; key(0, 13, 5) = 1
            key(0, 23, 5) = 1; key(0, 23, 6) = 0; key(0, 23, 7) = BEYOND
            """);
        CHECK.words("A SHUNT asks for KEY in the hour that it IS (0 at first), by all NOTES.");
        CHECK.run("lane(0, 9, 9, 99); lane(0, 9, 9, 99)\n" + CAR.repeat(2) + """
            park(1, 0); park(0, 0); shunt(0, 1) = MISSING; note(0, 1, true); shunt(0, 1) = MISSING
            fewest(1) = NONE; hour(1); fewest(1) = 1; shunt(0, 1) = 1
            hour(0); shunt(0, 0) = MISSING; hour(23); shunt(0, 0) = 2; note(0, 23, false); shunt(0, 1) = MISSING
            hour(22); shunt(0, 1) = 3
            note(0, 22, false); shunt(0, 0) = MISSING; note(0, 22, true); shunt(0, 0) = 4; night()
            shunt(0, 1) = MISSING; hour(1); shunt(0, 1) = 5
            """);
    }

    private static void thirtyNotes() {
        CHECK.promise(42);
        CHECK.words("KEYS are told at two times: a NOTE says of a CAR that there is a KEY from an hour on, or "
            + "none (at most 30; hours 0 to 23); NOTES have numbers as they come.");
        Run run = CHECK.run(CAR.repeat(8));
        for (int i = 1; i <= 30; i++) {
            run.told("all(4) = %d; key(0, 0, %d) = BEYOND".formatted(i - 1, i));
            run.told("note(%d, %d, %b) = %d".formatted(i % 8, i % 24, i % 2 == 0, i));
        }
        run.told("all(4) = 30; note(0, 0, true) = FULL; key(0, 0, 23) = 0; key(0, 0, 24) = 1; "
            + "key(0, 0, 30) = 1; key(0, 0, 31) = BEYOND; key(6, 23, 29) = 1; key(6, 23, 30) = 1; "
            + "key(6, 6, 29) = 1");
        run.told("undo() = 15; all(4) = 29; key(6, 6, 30) = BEYOND; note(6, 6, false) = 30; key(6, 6, 30) = 0; "
            + "key(6, 6, 29) = 1; key(6, 13, 30) = 0; key(6, 14, 30) = 1");
    }

    private static void sheets() {
        CHECK.promise(44);
        CHECK.words("SHEETS 0 to 3 are rows of up to 20 numbers of 8, 16 or 32 bits, or MISSING (all, at first).");
        String desk = "lane(0, 9, 9, 99)\n" + CAR;
        for (int bits = 8; bits <= 32; bits *= 2) {
            for (int s = 0; s < 4; s++) {
                CHECK.run(desk + SHEETS.formatted(s, (s + 1) % 4, (s + 2) % 4, bits));
            }
        }
        CHECK.promise(46);
        CHECK.words("n numbers of a sheet from one on come to another one from one on: n.");
        copies();
    }

    /** Numbers come over as they were, even where both are parts of one sheet. */
    private static void copies() {
        String signs = "sheet(0, 16, 6); put(0, 0, 11); put(0, 1, 12); put(0, 2, 13); put(0, 3, 14); "
            + "put(0, 4, 15); put(0, 5, 16)\n";
        String read = "sheet(1, 16, 3); put(1, 2, 41); lane(0, 9, 9, 99); car(1, 1, 1, 0, 0, 0)\n";
        int[][] moves = {{0, 1, 5}, {1, 0, 5}, {0, 3, 3}, {3, 0, 3}, {0, 2, 4}, {2, 0, 4}, {0, 0, 6}, {2, 3, 0},
            {6, 6, 0}, {5, 0, 1}};
        for (int[] m : moves) {
            int[] due = {1, 2, 3, 4, 5, 6};
            System.arraycopy(due.clone(), m[0], due, m[1], m[2]);
            Run run = CHECK.run(signs + read + "copy(0, " + m[0] + ", 0, " + m[1] + ", " + m[2] + ") = " + m[2]);
            for (int i = 0; i < 6; i++) {
                run.told("copy(0, " + i + ", 1, 0, 1) = 1; put(1, 1, " + (10 + due[i]) + "); text(1) = 3; "
                    + "lets(0, 0, 0) = 1");
            }
        }
    }
}
