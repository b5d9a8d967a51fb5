/**
 * "Each act tells its findings in the order in which they are asked": each finding alone and with others
 * that the same call earns. Each refused call leaves all as it was.
 */
public final class FindingsTest {
    private static final Check CHECK = new Check();
    private static final Refused REFUSED = new Refused(CHECK);
    private static final String[] PARK_ORDER = {"TAKEN", "KIND", "STUCK", "FULL"};
    private static final String[] SHUNT_ORDER = {"NONE", "TAKEN", "STUCK", "KIND", "FULL", "MISSING", "BARRED"};

    /** Ways to be stuck; the first three are those of the lane where the car is. */
    private static final int NOT_STUCK = 0;
    private static final int NOT_AT_FRONT = 1;
    private static final int HERE_BROKEN = 2;
    private static final int HERE_NO_CYCLES = 3;
    private static final int THERE_BROKEN = 4;
    private static final int THERE_NO_CYCLES = 5;

    /** Ways not to fit. */
    private static final int TOO_HIGH = 1;
    private static final int TOO_HEAVY = 2;
    private static final int TOO_HEAVY_FOR_A_TOWER = 3;

    public static void main(String[] args) {
        numbers();
        CHECK.words("Each act tells its findings in the order in which they are asked; an act that answers a "
            + "finding changes nothing.");
        lanesAndCars();
        parkInOrder();
        shuntInOrder();
        going();
        evenings();
        looksAndTexts();
        floodAndKeys();
        sheets();
        CHECK.end();
    }

    private static void numbers() {
        CHECK.words("FINDINGS are answers below -99999: -100001 BEYOND, -100002 MISSING, -100003 SIZE, -100004 "
            + "KIND, "
            + "-100005 FULL, -100006 NONE, -100007 TAKEN, -100008 STUCK, -100009 BARRED.");
        CHECK.run("""
            lane(9, 9, 9, 9) = -100001; text(0) = -100002; sheet(0, 8, -1) = -100003; undo() = -100006
            lane(0, 5, 9, 99); lane(0, 9, 9, 99); as(0, 1) = -100004; car(3, 1, 1, 0, 0, 0); car(3, 1, 1, 0, 0, 0)
            park(0, 0); park(0, 0) = -100007; park(1, 0) = -100005; park(1, 1); car(3, 1, 1, 0, 0, 0); park(2, 1)
            shunt(1, 0) = -100008; sheet(0, 8, 1); put(0, 0, 10); text(0); note(0, 0, true); shunt(0, 1) = -100009
            all(6) = 9
            """);
    }

    private static void lanesAndCars() {
        String lanes = "lane(0, 5, 5, 5); lane(1, 5, 5, 5); lane(2, 5, 5, 5); lane(3, 5, 5, 5)\n";
        CHECK.promise(2);
        CHECK.words("BEYOND: kind, LENGTH, HEIGHT, LOAD. FULL: there are 5.");
        String full = lanes + "lane(0, 5, 5, 5) = 4";
        for (String call : new String[] {"lane(4, 5, 5, 5)", "lane(-1, 5, 5, 5)", "lane(0, 0, 5, 5)", "lane(0, "
            + "31, 5, 5)",
            "lane(0, 5, 0, 5)", "lane(0, 5, 31, 5)", "lane(0, 5, 5, 0)", "lane(0, 5, 5, 100)"}) {
            REFUSED.due(full, call, "BEYOND");
        }
        REFUSED.due(full, "lane(3, 30, 30, 99)", "FULL");
        CHECK.promise(3);
        CHECK.words("BEYOND: no such LANE, or kind. KIND: it is not of that kind, nor of one under it.");
        String[] others = {"as(0, 1)", "as(0, 2)", "as(0, 3)", "as(1, 2)", "as(1, 3)", "as(2, 1)", "as(2, 3)",
            "as(3, 2)"};
        for (String call : others) {
            REFUSED.due(lanes, call, "KIND");
        }
        REFUSED.due(lanes, "as(0, 4)", "BEYOND");
        REFUSED.due(lanes, "as(4, 4)", "BEYOND");
        CHECK.promise(5);
        CHECK.words("KIND: it is no LIFT.");
        for (String call : new String[] {"breaks(0, true)", "breaks(0, false)", "breaks(2, true)", "breaks(2, "
            + "false)"}) {
            REFUSED.due(lanes, call, "KIND");
        }
        REFUSED.due(lanes, "breaks(4, true)", "BEYOND");
        CHECK.promise(6);
        CHECK.words("A new CAR, OUT: its number. BEYOND. FULL: there are 8.");
        String cars = "car(1, 1, 1, 0, 0, 0)\n".repeat(8);
        for (String call : new String[] {"car(0, 1, 1, 0, 0, 0)", "car(10, 1, 1, 0, 0, 0)", "car(1, 0, 1, 0, 0, "
            + "0)",
            "car(1, 31, 1, 0, 0, 0)", "car(1, 1, 0, 0, 0, 0)", "car(1, 1, 100, 0, 0, 0)", "car(1, 1, 1, -1, 0, 0)",
            "car(1, 1, 1, 24, 0, 0)", "car(1, 1, 1, 0, -1, 0)", "car(1, 1, 1, 0, 10, 0)", "car(1, 1, 1, 0, 0, -1)",
            "car(1, 1, 1, 0, 0, 100)"}) {
            REFUSED.due(cars, call, "BEYOND");
        }
        REFUSED.due(cars, "car(9, 30, 99, 23, 9, 99)", "FULL");
        CHECK.promise(9);
        CHECK.words("BEYOND: no such LANE. NONE: there is none.");
        REFUSED.due(lanes, "at(0, 0)", "NONE");
        REFUSED.due(lanes, "at(4, 0)", "BEYOND");
        REFUSED.due(lanes, "at(-1, -1)", "BEYOND");
    }

    private static String first(String[] order, boolean... earned) {
        for (int i = 0; i < order.length; i++) {
            if (earned[i]) {
                return order[i];
            }
        }
        return "";
    }

    /** The lane to which car 0 (3 long, 4 high, 20 heavy) is to come, by what shall go wrong there. */
    private static String laneThere(int stuck, int misfit, boolean full) {
        boolean lift = stuck == THERE_BROKEN || stuck == THERE_NO_CYCLES;
        int kind = misfit == TOO_HEAVY_FOR_A_TOWER ? 3 : lift ? 1 : 2;
        int load = misfit == TOO_HEAVY ? 19 : misfit == TOO_HEAVY_FOR_A_TOWER ? 39 : 20;
        return "lane(" + kind + ", " + (full ? 2 : 3) + ", " + (misfit == TOO_HIGH ? 3 : 4) + ", " + load + ")\n";
    }

    private static String stuckThere(int stuck, int lane) {
        if (stuck == THERE_BROKEN) {
            return "breaks(" + lane + ", true)\n";
        }
        return stuck == THERE_NO_CYCLES ? ("park(1, " + lane + "); leave(1)\n").repeat(6) : "";
    }

    private static void parkInOrder() {
        CHECK.promise(11);
        CHECK.words("BEYOND. TAKEN: it is in a LANE. KIND: it does not FIT. STUCK: the LANE is BROKEN, "
            + "or would have more than 12 CYCLES. FULL: there is no ROOM.");
        int[] ways = {NOT_STUCK, THERE_BROKEN, THERE_NO_CYCLES};
        for (int stuck : ways) {
            for (int misfit = 0; misfit <= TOO_HEAVY_FOR_A_TOWER; misfit++) {
                for (int rest = 0; rest < 4; rest++) {
                    boolean full = (rest & 1) != 0;
                    boolean taken = (rest & 2) != 0;
                    String desk = laneThere(stuck, misfit, full) + "lane(0, 9, 9, 99)\n"
                        + "car(3, 4, 20, 9, 1, 7); car(1, 1, 1, 0, 0, 0)\n"
                        + stuckThere(stuck, 0) + (taken ? "park(0, 1)\n" : "");
                    answers(desk, "park(0, 0)", "1", first(PARK_ORDER, taken, misfit != 0, stuck != NOT_STUCK,
                        full));
                    REFUSED.due(desk, "park(0, 2)", "BEYOND");
                    REFUSED.due(desk, "park(2, 0)", "BEYOND");
                }
            }
        }
        String alone = "lane(1, 3, 9, 99); car(3, 1, 1, 9, 1, 7); park(0, 0); breaks(0, true)";
        REFUSED.due(alone, "park(0, 0)", "TAKEN");
    }

    private static void answers(String desk, String call, String fine, String finding) {
        if (finding.isEmpty()) {
            CHECK.run(desk + call + " = " + fine);
        } else {
            REFUSED.due(desk, call, finding);
        }
    }

    private static void shuntInOrder() {
        CHECK.promise(12);
        CHECK.words("NONE: it is OUT. TAKEN: it is in that LANE. STUCK: it is not FREE, or the other LANE is "
            + "BROKEN, "
            + "or would have more than 12 CYCLES. KIND: it does not FIT. FULL: there is no ROOM. MISSING: there "
            + "is no KEY. "
            + "BARRED: RULES do not let it.");
        for (int rest = 0; rest < 16; rest++) {
            boolean full = (rest & 1) != 0;
            boolean missing = (rest & 2) != 0;
            boolean barred = (rest & 4) != 0;
            boolean out = (rest & 8) != 0;
            for (int stuck = NOT_STUCK; stuck <= THERE_NO_CYCLES; stuck++) {
                for (int misfit = 0; misfit <= TOO_HEAVY_FOR_A_TOWER; misfit++) {
                    shuntThere(stuck, misfit, full, missing, barred, out);
                }
                boolean here = stuck <= HERE_NO_CYCLES;
                if (here && !out) {
                    String desk = deskHere(stuck, full) + keyAndRule(missing, barred);
                    REFUSED.due(desk, "shunt(0, 0)", "TAKEN");
                }
            }
        }
    }

    /** Car 0 in lane 0 with car 2 behind it, and car 1 ahead of it where that is asked; no length left,
        or some. */
    private static String deskHere(int stuck, boolean full) {
        boolean lift = stuck == HERE_BROKEN || stuck == HERE_NO_CYCLES;
        int length = stuck == NOT_AT_FRONT ? 5 : 4;
        return "lane(" + (lift ? 1 : 0) + ", " + (full ? length : 9) + ", 9, 99)\n"
            + "car(3, 4, 20, 9, 1, 7); car(1, 1, 1, 0, 0, 0); car(1, 1, 1, 5, 0, 0)\n"
            + (stuck == HERE_NO_CYCLES ? "park(1, 0); leave(1)\n".repeat(5) : "")
            + "park(2, 0); park(0, 0)\n"
            + (stuck == NOT_AT_FRONT ? "park(1, 0)\n" : "")
            + (stuck == HERE_BROKEN ? "breaks(0, true)\n" : "");
    }

    private static String keyAndRule(boolean missing, boolean barred) {
        return "note(2, 0, true); hour(5); note(0, " + (missing ? 6 : 5) + ", true)\n"
            + (barred ? "sheet(3, 8, 1); put(3, 0, 10); text(3)\n" : "");
    }

    private static void shuntThere(int stuck, int misfit, boolean full, boolean missing, boolean barred,
        boolean out) {
        boolean here = stuck >= NOT_AT_FRONT && stuck <= HERE_NO_CYCLES;
        if (out && here) {
            return;
        }
        String desk = deskHere(here ? stuck : NOT_STUCK, false) + (out ? "leave(0)\n" : "")
            + laneThere(stuck, misfit, full) + stuckThere(stuck, 1) + keyAndRule(missing, barred);
        String finding = first(SHUNT_ORDER, out, false, stuck != NOT_STUCK, misfit != 0, full, missing, barred);
        answers(desk, "shunt(0, 1)", "1", finding);
        REFUSED.due(desk, "shunt(0, 2)", "BEYOND");
        boolean canBe = finding.isEmpty() || finding.equals("BARRED");
        CHECK.run(desk + "sheet(0, 8, 1); put(0, 0, 1); sheet(1, 8, 0)\n"
            + "lane(0, 9, 9, 99); car(1, 1, 1, 0, 0, 0); park(3, 2); proves(3, 1) = -1; proves(3, 0) = "
            + (canBe ? -1 : 0));
        if (!out) {
            // Car 2 is behind car 0: it is freed by this shunt alone, since there is no other lane.
            CHECK.run(desk + "fewest(2) = " + (canBe ? "1; step(2, 0) = 1" : "NONE; step(2, 0) = NONE"));
        }
    }

    private static void going() {
        String desk = "lane(0, 9, 9, 99); lane(1, 9, 9, 99); car(3, 1, 1, 9, 1, 7); car(3, 1, 1, 8, 1, 7); "
            + "car(3, 1, 1, 7, 1, 7)\n"
            + "park(0, 0); park(1, 0)\n";
        CHECK.promise(13);
        CHECK.words("A CAR leaves: the HOUR at which it was to. BEYOND. NONE: it is OUT. STUCK: it is not FREE.");
        REFUSED.due(desk, "leave(3)", "BEYOND");
        REFUSED.due(desk, "leave(2)", "NONE");
        REFUSED.due(desk, "leave(0)", "STUCK");
        REFUSED.due(desk + "park(2, 1); breaks(1, true)", "leave(2)", "STUCK");
        REFUSED.due(desk + "park(2, 1); leave(2)\n".repeat(5) + "tell(1, 0, 3); leave(1); park(2, 1); "
            + "park(1, 1)", "leave(1)",
            "STUCK");
        CHECK.promise(16);
        CHECK.words("Which CARS are ahead of a CAR in its LANE, as bits. BEYOND. NONE: it is OUT.");
        REFUSED.due(desk, "ahead(3)", "BEYOND");
        REFUSED.due(desk, "ahead(2)", "NONE");
        CHECK.promise(17);
        CHECK.words("BEYOND. NONE: it is OUT, or there is none of at most 3.");
        REFUSED.due(desk, "fewest(3)", "BEYOND");
        REFUSED.due(desk, "fewest(2)", "NONE");
        REFUSED.due(desk, "fewest(0)", "NONE");
        CHECK.promise(18);
        CHECK.words("NONE: as of fewest(), or it has not so many.");
        REFUSED.due(desk, "step(2, 0)", "NONE");
        REFUSED.due(desk, "step(2, -1)", "BEYOND");
        REFUSED.due(desk, "step(0, 0)", "NONE");
        REFUSED.due(desk, "step(0, -1)", "BEYOND");
        REFUSED.due(desk, "step(1, 0)", "NONE");
        REFUSED.due(desk, "step(1, -1)", "BEYOND");
        REFUSED.due(desk, "step(3, 0)", "BEYOND");
        REFUSED.due(desk + "note(1, 0, true)", "step(0, 1)", "NONE");
        CHECK.promise(19);
        CHECK.words("BEYOND: no such CAR, or sheet. MISSING. NONE: the CAR is OUT.");
        REFUSED.due(desk, "proves(3, 0)", "BEYOND");
        REFUSED.due(desk, "proves(2, 4)", "BEYOND");
        REFUSED.due(desk, "proves(2, 0)", "MISSING");
        REFUSED.due(desk, "proves(0, 0)", "MISSING");
        REFUSED.due(desk + "sheet(0, 8, 1)", "proves(2, 0)", "NONE");
        REFUSED.due(desk + "sheet(0, 8, 0)", "proves(2, 0)", "NONE");
    }

    private static void evenings() {
        String cars = "car(1, 1, 1, 0, 0, 0)\n".repeat(8);
        String seven = cars + "arrive(0); arrive(1); arrive(2); arrive(3); arrive(4); arrive(5); arrive(6) = 7\n";
        CHECK.promise(21);
        CHECK.words("BEYOND. TAKEN: it is among them. FULL: there are 7.");
        REFUSED.due(cars + "arrive(3)", "arrive(3)", "TAKEN");
        for (int car = 0; car < 7; car++) {
            REFUSED.due(seven, "arrive(" + car + ")", "TAKEN");
        }
        REFUSED.due(seven, "arrive(7)", "FULL");
        REFUSED.due(seven, "arrive(8)", "BEYOND");
        CHECK.promise(23);
        CHECK.words("MORNINGS by THE PLAN. NONE: there is none.");
        REFUSED.due(seven, "plan()", "NONE");
        REFUSED.due(seven + "lane(0, 6, 9, 99)", "plan()", "NONE");
        CHECK.run(seven + "lane(0, 7, 9, 99); plan() = 0");
        CHECK.promise(24);
        CHECK.words("BEYOND. NONE: there is none, or the CAR does not arrive.");
        REFUSED.due(seven, "planned(0)", "NONE");
        REFUSED.due(seven, "planned(8)", "BEYOND");
        REFUSED.due(seven + "lane(0, 9, 9, 99)", "planned(7)", "NONE");
        REFUSED.due(seven + "lane(0, 9, 9, 99); clear()", "planned(0)", "NONE");
    }

    private static void looksAndTexts() {
        String desk = "lane(0, 9, 9, 99); lane(0, 9, 9, 99); car(1, 1, 1, 0, 0, 0); car(1, 1, 1, 0, 0, 0)\n"
            + "note(0, 0, true); park(0, 0)\n";
        CHECK.promise(34);
        CHECK.words("BEYOND: no such CAR, PORTER, or sum. NONE: there are no such LOOKS, or no SHUNT of it "
            + "between them.");
        String[] none = {"", "look(0, true)", "look(0, false)", "look(0, true); look(0, false)", "look(0, "
            + "false); look(0, true)",
            "look(0, false); shunt(0, 1)", "shunt(0, 1); look(0, true)", "look(0, true); shunt(0, 1); "
            + "look(0, false)",
            "shunt(0, 1); look(0, false); look(0, true); shunt(0, 0)", "look(1, false); shunt(0, 1); "
            + "look(0, true)",
            "look(0, false); shunt(0, 1); look(1, true)", "look(0, true); shunt(0, 1); look(0, true)",
            "look(0, false); shunt(0, 1); look(0, true); look(0, false)", "look(0, false); look(0, true); "
            + "shunt(0, 1); look(0, true)",
            "look(0, false); shunt(0, 1); look(0, true); look(0, false); look(0, true)"};
        for (String led : none) {
            REFUSED.due(desk + led, "harm(0, 0, 100)", "NONE");
            REFUSED.due(desk + led, "harm(2, 0, 100)", "BEYOND");
            REFUSED.due(desk + led, "harm(0, 4, 100)", "BEYOND");
            REFUSED.due(desk + led, "harm(0, 0, 10000)", "BEYOND");
            REFUSED.due(desk + led, "harm(0, 0, -1)", "BEYOND");
        }
        CHECK.promise(35);
        CHECK.words("MISSING. SIZE: more than 16. BEYOND: one is no SIGN.");
        String signs = desk + "sheet(0, 8, 1); put(0, 0, 10); text(0)\n";
        REFUSED.due(signs, "text(1)", "MISSING");
        REFUSED.due(signs + "sheet(1, 8, 17)", "text(1)", "SIZE");
        REFUSED.due(signs + "sheet(1, 8, 20)", "text(1)", "SIZE");
        REFUSED.due(signs + "sheet(1, 8, 16)", "text(1)", "BEYOND");
    }

    private static void floodAndKeys() {
        CHECK.promise(41);
        CHECK.words("BEYOND: i is below 0. NONE: there is none.");
        REFUSED.due("", "rescued(-1)", "BEYOND");
        REFUSED.due("", "rescued(0)", "NONE");
        String cars = "car(1, 1, 1, 0, 0, 0)\n";
        String thirty = cars + "note(0, 7, true)\n".repeat(29) + "note(0, 3, false) = 30\n";
        CHECK.promise(42);
        CHECK.words("A NOTE of a CAR'S KEY: how many there are. BEYOND. FULL: there are 30.");
        REFUSED.due(thirty, "note(0, 0, true)", "FULL");
        REFUSED.due(thirty, "note(0, 23, false)", "FULL");
        REFUSED.due(thirty, "note(1, 0, true)", "BEYOND");
        REFUSED.due(thirty, "note(0, 24, true)", "BEYOND");
        REFUSED.due(thirty, "note(0, -1, true)", "BEYOND");
        CHECK.run(thirty + "undo() = 15; all(4) = 29; note(0, 3, true) = 30; note(0, 3, true) = FULL");
    }

    private static void sheets() {
        CHECK.promise(44);
        CHECK.words("BEYOND: no such sheet, or bits. SIZE: n is below 0. BEYOND: n is above 20.");
        String desk = "lane(0, 9, 9, 99); car(1, 1, 1, 0, 0, 0); sheet(0, 8, 3); put(0, 0, 1); put(0, 1, 14); "
            + "put(0, 2, 40)\n"
            + "sheet(1, 8, 1); put(1, 0, 11); sheet(2, 16, 1); put(2, 0, 12)\n";
        REFUSED.due(desk, "sheet(4, 7, -1)", "BEYOND");
        REFUSED.due(desk, "sheet(4, 8, -1)", "BEYOND");
        REFUSED.due(desk, "sheet(0, 7, -1)", "BEYOND");
        REFUSED.due(desk, "sheet(0, 8, -1)", "SIZE");
        REFUSED.due(desk, "sheet(0, 8, 21)", "BEYOND");
        REFUSED.due(desk, "sheet(0, 0, -1)", "SIZE");
        REFUSED.due(desk, "sheet(0, 0, 21)", "BEYOND");
        CHECK.promise(45);
        CHECK.words("BEYOND: no such sheet. MISSING. BEYOND: no such number.");
        REFUSED.due(desk, "put(4, -1, 0)", "BEYOND");
        REFUSED.due(desk, "put(3, -1, 0)", "MISSING");
        REFUSED.due(desk, "put(3, 20, 0)", "MISSING");
        REFUSED.due(desk, "put(0, 3, 0)", "BEYOND");
        REFUSED.due(desk + "sheet(1, 8, 0)", "put(1, 0, 0)", "BEYOND");
        CHECK.promise(46);
        CHECK.words("BEYOND: no such sheet (either). MISSING: one is. KIND: they are not of as many bits. "
            + "BEYOND: one has not so many, or from, to or n is below 0.");
        REFUSED.due(desk, "copy(3, 0, 4, 0, 1)", "BEYOND");
        REFUSED.due(desk, "copy(4, 0, 3, 0, 1)", "BEYOND");
        REFUSED.due(desk, "copy(3, 0, 0, 0, 1)", "MISSING");
        REFUSED.due(desk, "copy(0, 0, 3, 0, 1)", "MISSING");
        REFUSED.due(desk, "copy(3, 0, 3, 0, 0)", "MISSING");
        REFUSED.due(desk, "copy(3, -1, 2, -1, -1)", "MISSING");
        REFUSED.due(desk, "copy(2, 0, 0, 0, 1)", "KIND");
        REFUSED.due(desk, "copy(0, 0, 2, 0, 0)", "KIND");
        REFUSED.due(desk, "copy(0, 9, 2, 0, -1)", "KIND");
        REFUSED.due(desk, "copy(0, 0, 1, 0, 2)", "BEYOND");
        REFUSED.due(desk, "copy(1, 0, 0, 0, 2)", "BEYOND");
        REFUSED.due(desk + "sheet(3, 32, 1)", "copy(3, 0, 2, 0, 1)", "KIND");
        REFUSED.due(desk + "sheet(3, 32, 1)", "copy(1, 0, 3, 0, 1)", "KIND");
    }
}
