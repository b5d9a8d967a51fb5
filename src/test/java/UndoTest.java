/** Promise 47, sentence by sentence: which acts are kept, how many, and what is as it was behind undo(). */
public final class UndoTest {
    private static final Check CHECK = new Check();

    private static final String DESK = """
        lane(0, 9, 9, 99); lane(1, 9, 9, 60); lane(3, 9, 5, 41); lane(2, 9, 9, 99)
        car(3, 4, 20, 8, 2, 5); car(3, 4, 20, 6, 1, 9); car(2, 5, 10, 9, 1, 40); car(1, 1, 1, 9, 1, 1)
        note(0, 2, true); note(1, 0, true); note(2, 0, true)
        park(0, 0); park(1, 0); park(2, 1); look(2, false); shunt(2, 2); porter(2); shunt(2, 1); look(2, true)
        bid(0, 0, 10); bid(1, 0, 8); bid(1, 3, 4); sheet(0, 8, 3); put(0, 0, 1); put(0, 1, 14); put(0, 2, 40)
        text(0)
        sheet(1, 8, 1); put(1, 0, 11); sheet(2, 16, 0); arrive(2); arrive(0); flood(1, 90); flood(3, 95); pace(7)
        chargers(2); hour(3)
        """;

    /** An act of each kind that changes something. */
    private static final String[] CHANGES = {"lane(0, 9, 9, 99)", "breaks(1, true)", "car(1, 1, 1, 1, 1, 1)",
        "tell(0, 0, 9)", "tell(1, 1, 5)", "tell(2, 2, 0)", "park(3, 1)", "park(3, 3)", "shunt(1, 1)",
        "shunt(2, 2)", "leave(1)", "leave(2)", "night()", "hour(9)", "arrive(1)", "clear()", "chargers(0)",
        "bid(2, 0, 99)", "porter(1)", "look(2, false)", "look(1, true)", "text(1)", "text(2)", "flood(1, 0)",
        "pace(30)", "note(1, 3, false)"};

    /** Acts that change nothing, but are kept. */
    private static final String[] SAME = {"breaks(1, false)", "tell(0, 0, 8)", "tell(0, 1, 2)", "tell(0, 2, 5)",
        "hour(3)", "chargers(2)", "bid(0, 0, 10)", "bid(4, 4, 0)", "porter(2)", "text(0)", "flood(0, 100)",
        "flood(1, 90)", "pace(7)"};

    /** Calls that are not undone: those of sheets, and those that only ask. */
    private static final String[] NOT_KEPT = {"sheet(3, 32, 5)", "sheet(0, 0, 0)", "sheet(0, 8, 1)",
        "put(0, 0, 12)", "put(1, 0, 10)", "copy(0, 0, 1, 0, 1)", "copy(0, 0, 0, 0, 0)", "as(0, 0)",
        "laneIs(0, 0)", "carIs(0, 0)", "at(0, 0)", "fits(0, 0)", "ahead(0)", "fewest(1)", "step(0, 0)",
        "proves(0, 2)", "morning(-1)", "plan()", "planned(0)", "charged()", "charging(3)", "given(0)",
        "rent(0)", "giving()", "harm(2, 0, 99)", "wrong()", "lets(0, 0, 0)", "rescue()", "rescued(0)",
        "key(0, 0, 0)", "all(0)", "all(6)"};

    public static void main(String[] args) {
        CHECK.promise(47);
        none();
        eachThatChanges();
        eachThatChangesNothing();
        notKept();
        sixteen();
        aroundTheEnd();
        sheetsStay();
        oneByOne();
        actsBehindUndo();
        firstActs();
        CHECK.end();
    }

    private static void none() {
        CHECK.words("is undone: how many more can be. NONE.");
        CHECK.run("undo() = NONE; undo() = NONE; all(6) = 2; clear() = 0; undo() = 0; undo() = NONE; all(6) = 3");
        CHECK.run("lane(4, 1, 1, 1) = BEYOND; hour(24) = BEYOND; sheet(0, 8, 3); put(0, 0, 1); "
            + "copy(0, 0, 0, 1, 1); undo() = NONE");
    }

    private static String seen(String calls) {
        return CHECK.run(calls).seen();
    }

    private static void eachThatChanges() {
        CHECK.words("The latest act that changed the desk (all but sheet, put and copy of those that change "
            + "something, without a finding) is undone");
        String before = seen(DESK);
        for (String act : CHANGES) {
            String after = seen(DESK + act);
            CHECK.that(act + " changes what is seen", !after.equals(before));
            CHECK.that(act + " undone", seen(DESK + act + "; undo() = 15").equals(before));
            for (String next : CHANGES) {
                Run run = CHECK.run(DESK + act + "\n");
                if (!Calls.isFinding(run.make(next))) {
                    CHECK.that(next + " undone behind " + act, run.told("undo() = 15").seen().equals(after));
                }
            }
        }
    }

    private static void eachThatChangesNothing() {
        CHECK.words("(The latest 16 are kept; also such as changed nothing: lane, breaks, car, tell, park, "
            + "shunt, leave, night, hour, arrive, clear, chargers, "
            + "bid, porter, look, text, flood, pace, note.)");
        String before = seen(DESK);
        for (String act : SAME) {
            CHECK.that(act + " changes nothing", seen(DESK + act).equals(before));
            CHECK.that(act + " undone", seen(DESK + act + "; undo() = 15").equals(before));
        }
        CHECK.run("""
            lane(1, 9, 9, 99); car(1, 1, 1, 8, 2, 5); sheet(0, 8, 0)
            breaks(0, false) = 0; tell(0, 0, 8) = 8; night() = 0; hour(0) = 0; clear() = 0; chargers(1) = 1
            bid(0, 0, 0) = 0
            porter(0) = 0; text(0) = 0; flood(0, 100) = 100; pace(10) = 10
            undo() = 12; undo() = 11; undo() = 10; undo() = 9; undo() = 8; undo() = 7; undo() = 6; undo() = 5
            undo() = 4; undo() = 3; undo() = 2
            all(0) = 1; all(1) = 1; undo() = 1; all(1) = 0; all(0) = 1; undo() = 0; all(0) = 0; undo() = NONE
            """);
        String[] acts = {"breaks(0, false)", "tell(0, 2, 5)", "night()", "hour(0)", "clear()", "chargers(1)",
            "bid(3, 2, 0)", "porter(0)", "text(0)", "flood(0, 100)", "pace(10)"};
        for (String act : acts) {
            CHECK.run("lane(1, 9, 9, 99); car(1, 1, 1, 8, 2, 5); sheet(0, 8, 0); " + act + "; undo() = 2; "
                + "undo() = 1; undo() = 0; undo() = NONE");
        }
    }

    private static void notKept() {
        CHECK.words("all but sheet, put and copy of those that change something, without a finding");
        for (String call : NOT_KEPT) {
            Run run = CHECK.run(DESK);
            run.make(call);
            run.told("undo() = 15; hour(0) = 0; undo() = 15");
            Run few = CHECK.run("lane(0, 9, 9, 99); car(1, 1, 1, 0, 0, 0); park(0, 0); sheet(0, 8, 1)\n");
            few.make(call);
            few.told("undo() = 2; undo() = 1; undo() = 0; undo() = NONE; all(0) = 0; all(1) = 0");
            if (!call.matches("(sheet|put|copy).*")) {
                Run asked = CHECK.run(DESK);
                asked.make(call);
                CHECK.that(call + " only asks", asked.seen().equals(seen(DESK)));
            }
        }
    }

    private static void sixteen() {
        CHECK.words("The latest 16 are kept");
        for (int acts = 0; acts <= 20; acts++) {
            Run run = CHECK.run("");
            for (int v = 1; v <= acts; v++) {
                run.told("hour(" + v + ") = " + (v - 1));
            }
            int kept = Math.min(acts, 16);
            for (int more = kept - 1; more >= 0; more--) {
                run.told("undo() = " + more);
            }
            run.told("undo() = NONE; hour(23) = " + (acts - kept) + "; undo() = 0; undo() = NONE");
        }
    }

    /** Acts and undos in turn, so often that what is kept goes around its end several times. */
    private static void aroundTheEnd() {
        CHECK.words("how many more can be");
        int[][] turns = {{16, 16}, {17, 16}, {20, 5}, {3, 2}, {15, 15}, {1, 1}, {9, 8}, {16, 15}, {12, 13}};
        for (int[] turn : turns) {
            Run run = CHECK.run("");
            int[] hours = new int[600];
            int at = 0;
            int kept = 0;
            int hour = 0;
            for (int calls = 0; calls + turn[0] + turn[1] < 300; calls += turn[0] + turn[1]) {
                for (int i = 0; i < turn[0]; i++) {
                    int next = (hour * 7 + at) % 24;
                    run.told("hour(" + next + ") = " + hour);
                    hours[at++] = hour;
                    hour = next;
                    kept = Math.min(16, kept + 1);
                }
                for (int i = 0; i < turn[1]; i++) {
                    if (kept == 0) {
                        run.told("undo() = NONE");
                    } else {
                        kept--;
                        hour = hours[--at];
                        run.told("undo() = " + kept);
                    }
                }
            }
            run.told("hour(0) = " + hour);
        }
    }

    private static void sheetsStay() {
        CHECK.run("""
            lane(0, 9, 9, 99); car(1, 1, 1, 0, 0, 0); sheet(0, 8, 1); put(0, 0, 10); text(0) = 1; put(0, 0, 11)
            sheet(1, 8, 1)
            copy(0, 0, 1, 0, 1); lets(0, 0, 0) = 0; undo() = 2; lets(0, 0, 0) = 1; wrong() = -1; text(1) = 1
            lets(0, 0, 0) = 1; put(1, 0, 40)
            undo() = 2; undo() = 1; undo() = 0; text(1) = 1; wrong() = 0; text(0) = 1; wrong() = -1; undo() = 1
            undo() = 0; text(2) = MISSING
            """);
    }

    /** Sixteen acts of many kinds, undone one by one: each time all is as it was behind those that are left. */
    private static void oneByOne() {
        CHECK.words("The latest 16 are kept");
        String[] acts = {"lane(3, 5, 9, 99)", "shunt(2, 2)", "look(2, false)", "car(1, 1, 1, 20, 1, 60)", "park(4, 4)",
            "breaks(1, true)", "note(4, 0, true)", "clear()", "tell(1, 0, 23)", "leave(1)", "arrive(4)", "text(1)",
            "bid(4, 0, 999)", "porter(3)", "shunt(2, 4)", "night()"};
        for (int left = 0; left <= acts.length; left++) {
            StringBuilder few = new StringBuilder(DESK);
            for (int i = 0; i < left; i++) {
                few.append(acts[i]).append('\n');
            }
            StringBuilder all = new StringBuilder(DESK);
            for (String act : acts) {
                all.append(act).append('\n');
            }
            for (int more = acts.length - 1; more >= left; more--) {
                all.append("undo() = ").append(more).append('\n');
            }
            CHECK.that("as it was behind " + left + " acts", seen(all.toString()).equals(seen(few.toString())));
        }
    }

    private static void actsBehindUndo() {
        CHECK.words("is undone: how many more can be.");
        CHECK.run("""
            lane(1, 9, 9, 99) = 0; breaks(0, true); car(1, 1, 1, 0, 0, 0) = 0; undo() = 2; carIs(0, 0) = BEYOND
            undo() = 1; laneIs(0, 7) = 0; undo() = 0
            laneIs(0, 7) = BEYOND; undo() = NONE; lane(0, 9, 9, 99) = 0; undo() = 0; undo() = NONE
            """);
        // What is made anew has nothing of what was undone.
        CHECK.run("""
            lane(1, 9, 9, 99) = 0; lane(1, 9, 9, 99) = 1; car(1, 1, 1, 5, 1, 9) = 0; car(1, 1, 1, 5, 1, 9) = 1
            park(1, 1); breaks(1, true); flood(1, 7)
            undo(); undo(); undo(); undo(); undo(); undo() = 1; lane(3, 8, 7, 6) = 1; laneIs(1, 0) = 3
            laneIs(1, 4) = 0; laneIs(1, 5) = 8; laneIs(1, 6) = 0
            laneIs(1, 7) = 0; flood(1, 0) = 100; car(2, 3, 3, 4, 5, 6) = 0; car(2, 3, 3, 4, 5, 6) = 1
            carIs(1, 6) = -1; carIs(1, 0) = 2; carIs(1, 3) = 4; at(1, 0) = NONE
            """);
        CHECK.run("car(1, 1, 1, 5, 1, 9); note(0, 0, true) = 1; note(0, 5, true) = 2; undo(); "
            + "note(0, 6, true) = 2; key(0, 5, 1) = 1; note(0, 5, false) = 3\n"
            + "key(0, 5, 3) = 0; key(0, 6, 3) = 1; undo(); undo(); all(4) = 1; key(0, 23, 1) = 1; "
            + "key(0, 6, 2) = BEYOND");
    }

    /** All that acts can change, each changed once on a new object and undone to the first of all. */
    private static void firstActs() {
        String first = seen("");
        String[] acts = {"night()", "hour(9)", "clear()", "chargers(3)", "bid(4, 0, 9)", "porter(3)", "pace(1)",
            "lane(0, 1, 1, 1)", "car(1, 1, 1, 1, 1, 1)"};
        StringBuilder all = new StringBuilder();
        for (String act : acts) {
            CHECK.that(act + " undone on a new object", seen(act + "; undo() = 0").equals(first));
            all.append(act).append('\n');
        }
        CHECK.that("all of them undone", seen(all + "undo()\n".repeat(acts.length)).equals(first));
    }
}
