/**
 * Each number that a call takes: at its bounds, one below, one above, far off at both ends of int, and with
 * higher bits than a byte or a short has. Each of those that are refused leaves all as it was.
 */
public final class BoundsTest {
    private static final Check CHECK = new Check();
    private static final Refused REFUSED = new Refused(CHECK);

    /** Four lanes, one of each kind, and six cars: 3 of them in the row, 1 in the lift, 1 in the low one. */
    private static final String DESK = """
        lane(0, 9, 9, 99) = 0; lane(1, 9, 9, 60) = 1; lane(2, 6, 9, 99) = 2; lane(3, 9, 5, 41) = 3
        car(3, 4, 20, 8, 2, 5) = 0; car(3, 4, 20, 6, 1, 9) = 1; car(3, 4, 20, 7, 3, 3) = 2
        car(2, 5, 10, 9, 0, 40) = 3; car(4, 9, 30, 5, 5, 8) = 4; car(1, 1, 1, 3, 1, 0) = 5
        note(0, 2, true); note(1, 0, true); note(2, 3, true); note(2, 6, false); note(3, 0, true)
        park(0, 0) = 1; park(1, 0) = 2; park(2, 0) = 3; park(3, 1) = 1; park(4, 2) = 1
        look(3, false); shunt(3, 3) = 1; porter(2); shunt(3, 1) = 2; look(3, true) = 4
        bid(0, 0, 10); bid(1, 0, 8); bid(1, 3, 4); bid(4, 4, 7)
        sheet(0, 8, 3); put(0, 0, 1); put(0, 1, 14); put(0, 2, 40); sheet(1, 8, 1); put(1, 0, 17)
        sheet(2, 16, 20); text(0) = 3
        arrive(4); arrive(0); arrive(5); flood(1, 90); flood(2, 95); pace(7); chargers(2); hour(3)
        """;

    private static final int A_SIGN = 24;
    private static final String[] ENDS = {"MIN", "MAX", "-1", "0"};

    public static void main(String[] args) {
        lanesAndCars();
        comingAndGoing();
        eveningsAndCharge();
        rentsAndPorters();
        textsAndRules();
        floodAndKeys();
        sheets();
        copies();
        undoAndAll();
        nothingThere();
        allThere();
        CHECK.end();
    }

    /** Numbers from least to most do not answer the finding; all others do, and change nothing. */
    private static void bounds(String call, int least, int most, String finding) {
        inside(call, least, most, finding);
        below(call, least, finding);
        above(call, most, finding);
    }

    private static void inside(String call, int least, int most, String finding) {
        for (int v = least; v <= most; v++) {
            String made = call.replace("#", String.valueOf(v));
            CHECK.that(made + " is not " + finding, CHECK.run(DESK).make(made) != Calls.answer(finding));
        }
    }

    private static void below(String call, int least, String finding) {
        long[] off = {least - 1L, least - 2L, least - 256L, least - 65536L, Integer.MIN_VALUE,
            Integer.MIN_VALUE + 1L, (long) Integer.MIN_VALUE + Math.max(0, least)};
        refused(call, off, finding);
    }

    private static void above(String call, int most, String finding) {
        long[] off = {most + 1L, most + 2L, most + 256L, most + 65536L, Integer.MAX_VALUE,
            Integer.MAX_VALUE - 1L};
        refused(call, off, finding);
    }

    private static void refused(String call, long[] values, String finding) {
        for (long v : values) {
            REFUSED.due(DESK, call.replace("#", String.valueOf(v)), finding);
        }
    }

    private static void lanes(String call) {
        bounds(call, 0, 3, "BEYOND");
    }

    private static void cars(String call) {
        bounds(call, 0, 5, "BEYOND");
    }

    private static void lanesAndCars() {
        CHECK.promise(2);
        CHECK.words("BEYOND: kind, LENGTH, HEIGHT, LOAD.");
        bounds("lane(#, 5, 5, 5)", 0, 3, "BEYOND");
        bounds("lane(0, #, 5, 5)", 1, 30, "BEYOND");
        bounds("lane(0, 5, #, 5)", 1, 30, "BEYOND");
        bounds("lane(0, 5, 5, #)", 1, 99, "BEYOND");
        CHECK.promise(3);
        CHECK.words("BEYOND: no such LANE, or kind.");
        lanes("as(#, 0)");
        bounds("as(3, #)", 0, 3, "BEYOND");
        CHECK.promise(4);
        CHECK.words("BEYOND: no such LANE, or another what.");
        lanes("laneIs(#, 0)");
        bounds("laneIs(3, #)", 0, 7, "BEYOND");
        CHECK.promise(5);
        lanes("breaks(#, true)");
        lanes("breaks(#, false)");
        CHECK.promise(6);
        CHECK.words("CARS 0, 1, .. (at most 8) have a LENGTH (1 to 9), a HEIGHT (1 to 30), a WEIGHT (1 to 99), "
            + "an HOUR at which "
            + "they leave (0 to 23), NEED of so many hours of charge (0 to 9), a WORTH (0 to 99).");
        bounds("car(#, 5, 5, 5, 5, 5)", 1, 9, "BEYOND");
        bounds("car(5, #, 5, 5, 5, 5)", 1, 30, "BEYOND");
        bounds("car(5, 5, #, 5, 5, 5)", 1, 99, "BEYOND");
        bounds("car(5, 5, 5, #, 5, 5)", 0, 23, "BEYOND");
        bounds("car(5, 5, 5, 5, #, 5)", 0, 9, "BEYOND");
        bounds("car(5, 5, 5, 5, 5, #)", 0, 99, "BEYOND");
        CHECK.promise(7);
        CHECK.words("BEYOND: no such CAR, or another what.");
        cars("carIs(#, 0)");
        bounds("carIs(5, #)", 0, 7, "BEYOND");
        CHECK.promise(8);
        cars("tell(#, 0, 1)");
        bounds("tell(1, #, 1)", 0, 2, "BEYOND");
        bounds("tell(1, 0, #)", 0, 23, "BEYOND");
        bounds("tell(1, 1, #)", 0, 9, "BEYOND");
        bounds("tell(1, 2, #)", 0, 99, "BEYOND");
        CHECK.promise(9);
        CHECK.words("BEYOND: no such LANE. NONE: there is none.");
        lanes("at(#, 0)");
        bounds("at(0, #)", 0, 2, "NONE");
        bounds("at(1, #)", 0, 0, "NONE");
        bounds("at(3, #)", 0, -1, "NONE");
        CHECK.promise(10);
        cars("fits(#, 0)");
        lanes("fits(0, #)");
    }

    private static void comingAndGoing() {
        CHECK.promise(11);
        cars("park(#, 3)");
        lanes("park(5, #)");
        CHECK.promise(12);
        CHECK.words("BEYOND: no such CAR, or LANE.");
        cars("shunt(#, 3)");
        lanes("shunt(3, #)");
        CHECK.promise(13);
        cars("leave(#)");
        CHECK.promise(15);
        CHECK.words("The hour becomes v (0 to 23)");
        bounds("hour(#)", 0, 23, "BEYOND");
        CHECK.promise(16);
        cars("ahead(#)");
        CHECK.promise(17);
        cars("fewest(#)");
        CHECK.promise(18);
        CHECK.words("BEYOND: no such CAR, or i is below 0.");
        cars("step(#, 0)");
        below("step(1, #)", 0, "BEYOND");
        CHECK.words("or it has not so many.");
        CHECK.run(DESK).told("hour(2); fewest(0) = NONE; note(2, 0, true); fewest(1) = 1; step(1, 0) = 17");
        above("step(2, #)", -1, "NONE");
        above("step(3, #)", -1, "NONE");
        CHECK.promise(19);
        CHECK.words("BEYOND: no such CAR, or sheet.");
        cars("proves(#, 0)");
        bounds("proves(0, #)", 0, 3, "BEYOND");
    }

    private static void eveningsAndCharge() {
        CHECK.promise(20);
        CHECK.words("MORNING of a LANE (-1: of all). BEYOND.");
        bounds("morning(#)", -1, 3, "BEYOND");
        CHECK.promise(21);
        cars("arrive(#)");
        CHECK.promise(24);
        cars("planned(#)");
        CHECK.promise(25);
        CHECK.words("CHARGERS (0 to 3; 1 at first)");
        bounds("chargers(#)", 0, 3, "BEYOND");
        CHECK.promise(27);
        CHECK.words("in each of the hours 0 to 23");
        bounds("charging(#)", 0, 23, "BEYOND");
    }

    private static void rentsAndPorters() {
        CHECK.promise(28);
        CHECK.words("RENTS. TENANTS and PLACES 0 to 4: BIDS (0 to 999; 0 at first).");
        bounds("bid(#, 0, 5)", 0, 4, "BEYOND");
        bounds("bid(0, #, 5)", 0, 4, "BEYOND");
        bounds("bid(0, 0, #)", 0, 999, "BEYOND");
        CHECK.promise(29);
        bounds("given(#)", 0, 4, "BEYOND");
        CHECK.promise(30);
        bounds("rent(#)", 0, 4, "BEYOND");
        CHECK.promise(32);
        CHECK.words("PORTERS 0 to 3; one is ON (0 at first).");
        bounds("porter(#)", 0, 3, "BEYOND");
        CHECK.promise(33);
        cars("look(#, true)");
        cars("look(#, false)");
        CHECK.promise(34);
        CHECK.words("BEYOND: no such CAR, PORTER, or sum.");
        cars("harm(#, 0, 5)");
        bounds("harm(3, #, 5)", 0, 3, "BEYOND");
        bounds("harm(3, 0, #)", 0, 9999, "BEYOND");
    }

    private static void textsAndRules() {
        CHECK.promise(35);
        CHECK.words("BEYOND: no such sheet. MISSING. SIZE: more than 16. BEYOND: one is no SIGN.");
        inside("text(#)", 0, 1, "BEYOND");
        below("text(#)", 0, "BEYOND");
        above("text(#)", 3, "BEYOND");
        REFUSED.due(DESK, "text(3)", "MISSING");
        for (int size = 0; size <= 20; size++) {
            String desk = DESK + "sheet(3, 8, " + size + ")\n";
            for (int i = 0; i < size; i++) {
                desk += "put(3, " + i + ", 10)\n";
            }
            if (size <= 16) {
                CHECK.run(desk + "text(3) = " + size + "; wrong() = " + (size <= 1 ? -1 : size <= 5 ? size : 5));
            } else {
                REFUSED.due(desk, "text(3)", "SIZE");
            }
        }
        signs();
        CHECK.promise(37);
        cars("lets(#, 0, 0)");
        lanes("lets(0, #, 0)");
        bounds("lets(0, 0, #)", 0, 23, "BEYOND");
    }

    /** One number that is no sign, at the first and at the last place of a text, by each kind of sheet. */
    private static void signs() {
        CHECK.words("1 the hour, 2 LENGTH of the CAR, 3 its WEIGHT, 4 the LANE, 5 the LANE'S kind, 6 the PORTER "
            + "who is ON; "
            + "10 to 33: 0 to 23; 40: the last but one and the last become 1 if the first is less, else 0");
        String[] noSigns = {"0", "7", "8", "9", "34", "35", "38", "39", "45", "46", "-1", "127", "128", "255"};
        for (int bits = 8; bits <= 32; bits *= 2) {
            for (String v : noSigns) {
                String first = "sheet(3, " + bits + ", 2); put(3, 0, " + v + "); put(3, 1, 42)\n";
                String last = "sheet(3, " + bits + ", 2); put(3, 1, " + v + "); put(3, 0, 10)\n";
                REFUSED.due(DESK + first, "text(3)", "BEYOND");
                REFUSED.due(DESK + last, "text(3)", "BEYOND");
            }
            int[] signs = {1, 2, 3, 4, 5, 6, 10, 11, 32, 33, 40, 41, 42, 43, 44};
            for (int v : signs) {
                CHECK.run("sheet(3, " + bits + ", 1); put(3, 0, " + v + "); text(3) = 1; wrong() = "
                    + (v < 40 ? -1 : 0));
            }
        }
    }

    private static void floodAndKeys() {
        CHECK.promise(38);
        CHECK.words("FLOODS: each LANE has a MINUTE (0 to 200; 100 at first;");
        lanes("flood(#, 5)");
        bounds("flood(0, #)", 0, 200, "BEYOND");
        bounds("flood(2, #)", 0, 200, "BEYOND");
        CHECK.promise(39);
        CHECK.words("PACE (1 to 30; 10 at first)");
        bounds("pace(#)", 1, 30, "BEYOND");
        CHECK.promise(41);
        CHECK.words("BEYOND: i is below 0. NONE: there is none.");
        below("rescued(#)", 0, "BEYOND");
        CHECK.run(DESK).told("rescue() = 65; rescued(0) = 2; rescued(4) = 4; rescued(5) = NONE");
        inside("rescued(#)", 0, 4, "BEYOND");
        inside("rescued(#)", 0, 4, "NONE");
        above("rescued(#)", 4, "NONE");
        CHECK.promise(42);
        CHECK.words("(at most 30; hours 0 to 23)");
        cars("note(#, 5, true)");
        bounds("note(0, #, false)", 0, 23, "BEYOND");
        CHECK.promise(43);
        CHECK.words("BEYOND: no such CAR, hour, or so many NOTES (0 to all).");
        cars("key(#, 5, 5)");
        bounds("key(0, #, 5)", 0, 23, "BEYOND");
        bounds("key(0, 5, #)", 0, 5, "BEYOND");
    }

    private static void sheets() {
        CHECK.promise(44);
        CHECK.words("BEYOND: no such sheet, or bits. SIZE: n is below 0. BEYOND: n is above 20.");
        bounds("sheet(#, 8, 3)", 0, 3, "BEYOND");
        bounds("sheet(#, 0, 0)", 0, 3, "BEYOND");
        for (int bits = 1; bits < 40; bits++) {
            if (bits != 8 && bits != 16 && bits != 32) {
                REFUSED.due(DESK, "sheet(0, " + bits + ", 3)", "BEYOND");
            }
        }
        below("sheet(0, #, 3)", 0, "BEYOND");
        above("sheet(0, #, 3)", 32, "BEYOND");
        for (int bits = 8; bits <= 32; bits *= 2) {
            for (int n = 0; n <= 20; n++) {
                CHECK.run(DESK + "sheet(0, " + bits + ", " + n + ") = " + n);
            }
            below("sheet(0, " + bits + ", #)", 0, "SIZE");
            above("sheet(0, " + bits + ", #)", 20, "BEYOND");
        }
        CHECK.words("bits 0: it is MISSING: n (0).");
        for (int n = 0; n <= 20; n++) {
            CHECK.run(DESK + "sheet(0, 0, " + n + ") = 0; text(0) = MISSING; put(0, 0, 1) = MISSING");
        }
        CHECK.promise(45);
        CHECK.words("BEYOND: no such sheet. MISSING. BEYOND: no such number.");
        inside("put(#, 0, 9)", 0, 2, "BEYOND");
        below("put(#, 0, 9)", 0, "BEYOND");
        above("put(#, 0, 9)", 3, "BEYOND");
        REFUSED.due(DESK, "put(3, 0, 9)", "MISSING");
        bounds("put(0, #, 9)", 0, 2, "BEYOND");
        bounds("put(1, #, 9)", 0, 0, "BEYOND");
        bounds("put(2, #, 9)", 0, 19, "BEYOND");
        lowestBits();
    }

    /** v may be any int: what a sheet keeps of it is told by whether it is the sign that its lowest bits are. */
    private static void lowestBits() {
        CHECK.words("Number i of a sheet becomes v (its lowest bits): 0.");
        long[] added = {0, 256, -256, 65536, -65536, 0x7fffff00L, -0x80000000L, 0x7fff0000L, 0x01000000L, 0xff00,
            -0xff00};
        for (int bits = 8; bits <= 32; bits *= 2) {
            for (long more : added) {
                boolean lost = bits < 32 && more % (1L << bits) == 0 || more == 0;
                CHECK.run("sheet(1, " + bits + ", 1); put(1, 0, " + (A_SIGN + more) + ") = 0; text(1) = "
                    + (lost ? "1" : "BEYOND"));
            }
            CHECK.run("sheet(1, " + bits + ", 1); put(1, 0, MAX) = 0; text(1) = BEYOND; put(1, 0, MIN) = 0; "
                + "text(1) = BEYOND");
        }
    }

    private static void copies() {
        CHECK.promise(46);
        CHECK.words("BEYOND: no such sheet (either).");
        bounds("copy(#, 0, 0, 0, 1)", 0, 3, "BEYOND");
        bounds("copy(0, 0, #, 0, 1)", 0, 3, "BEYOND");
        CHECK.words("BEYOND: one has not so many, or from, to or n is below 0.");
        bounds("copy(0, #, 1, 0, 1)", 0, 2, "BEYOND");
        bounds("copy(0, #, 1, 0, 0)", 0, 3, "BEYOND");
        bounds("copy(0, 0, 1, #, 1)", 0, 0, "BEYOND");
        bounds("copy(1, 0, 0, #, 1)", 0, 2, "BEYOND");
        bounds("copy(1, 0, 0, #, 0)", 0, 3, "BEYOND");
        bounds("copy(0, 0, 1, 0, #)", 0, 1, "BEYOND");
        bounds("copy(0, 0, 0, 0, #)", 0, 3, "BEYOND");
        bounds("copy(0, 1, 0, 0, #)", 0, 2, "BEYOND");
        bounds("copy(0, 0, 0, 2, #)", 0, 1, "BEYOND");
        bounds("copy(2, 7, 2, 9, #)", 0, 11, "BEYOND");
        for (String from : ENDS) {
            for (String to : ENDS) {
                for (String n : ENDS) {
                    String call = "copy(0, " + from + ", 1, " + to + ", " + n + ")";
                    if (call.equals("copy(0, 0, 1, 0, 0)")) {
                        CHECK.run(DESK + call + " = 0");
                    } else {
                        REFUSED.due(DESK, call, "BEYOND");
                    }
                }
            }
        }
    }

    private static void undoAndAll() {
        CHECK.promise(48);
        CHECK.words("BEYOND: another what.");
        bounds("all(#)", 0, 6, "BEYOND");
    }

    /** Without lanes and cars there is no such lane and no such car, not even 0. */
    private static void nothingThere() {
        CHECK.promise(1);
        CHECK.words("No LANES, no CARS; hour 0; all else as told; sheets MISSING.");
        String[] calls = {"as(0, 0)", "laneIs(0, 0)", "breaks(0, true)", "carIs(0, 0)", "tell(0, 0, 0)",
            "at(0, 0)",
            "fits(0, 0)", "park(0, 0)", "shunt(0, 0)", "leave(0)", "ahead(0)", "fewest(0)", "step(0, 0)",
            "proves(0, 0)", "morning(0)", "arrive(0)", "planned(0)", "look(0, false)", "harm(0, 0, 0)",
            "lets(0, 0, 0)", "flood(0, 0)", "note(0, 0, true)", "key(0, 0, 0)"};
        for (String call : calls) {
            REFUSED.due("", call, "BEYOND");
        }
        String[] noLanes = {"fits(0, 0)", "park(0, 0)", "shunt(0, 0)", "lets(0, 0, 0)"};
        for (String call : noLanes) {
            REFUSED.due("car(1, 1, 1, 0, 0, 0)", call, "BEYOND");
            REFUSED.due("lane(0, 1, 1, 1)", call, "BEYOND");
        }
        String[] missing = {"text(#)", "put(#, 0, 0)", "copy(#, 0, 0, 0, 0)", "copy(0, 0, #, 0, 0)"};
        for (String call : missing) {
            for (int s = 0; s < 4; s++) {
                REFUSED.due("", call.replace("#", String.valueOf(s)), "MISSING");
            }
        }
        REFUSED.due("", "rescued(0)", "NONE");
        REFUSED.due("", "undo()", "NONE");
    }

    /** With five lanes and eight cars the last of each is there, and no more can come. */
    private static void allThere() {
        String desk = "lane(0, 9, 9, 99); lane(1, 9, 9, 99); lane(2, 9, 9, 99); lane(3, 9, 9, 99); "
            + "lane(0, 9, 9, 99) = 4\n"
            + "car(1, 1, 1, 0, 0, 0)\n".repeat(7) + "car(1, 1, 1, 9, 2, 3) = 7\n";
        CHECK.promise(2);
        CHECK.words("FULL: there are 5.");
        REFUSED.due(desk, "lane(0, 9, 9, 99)", "FULL");
        CHECK.promise(6);
        CHECK.words("FULL: there are 8.");
        REFUSED.due(desk, "car(1, 1, 1, 0, 0, 0)", "FULL");
        CHECK.run(desk + """
            laneIs(4, 1) = 9; as(4, 0) = 4; flood(4, 7) = 100; carIs(7, 3) = 9; tell(7, 0, 8) = 9
            note(7, 0, true) = 1
            fits(7, 4) = 1; park(7, 4) = 1; at(4, 0) = 7; ahead(7) = 0; fewest(7) = 0; lets(7, 4, 0) = 1
            key(7, 0, 1) = 1; charged() = 128; rescued(0) = NONE; arrive(7) = 1; planned(7) = 0; look(7, true) = 1
            morning(4) = 0; shunt(7, 3) = 1; shunt(7, 4) = 2; park(6, 4) = 2; fewest(7) = NONE; leave(6) = 0
            leave(7) = 8
            """);
        REFUSED.due(desk, "laneIs(5, 0)", "BEYOND");
        REFUSED.due(desk, "carIs(8, 0)", "BEYOND");
        REFUSED.due(desk, "park(8, 4)", "BEYOND");
        REFUSED.due(desk, "park(7, 5)", "BEYOND");
        REFUSED.due(desk, "shunt(7, 5)", "BEYOND");
    }
}
