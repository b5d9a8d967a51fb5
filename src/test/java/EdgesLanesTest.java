/** Terms 1 and 2, sentence by sentence: lanes, cars, shunts, mornings and evenings at their bounds. */
public final class EdgesLanesTest {
    private static final Check CHECK = new Check();
    private static final String CAR = "car(1, 1, 1, 0, 0, 0)\n";

    public static void main(String[] args) {
        kinds();
        loads();
        heights();
        room();
        places();
        broken();
        cycles();
        cyclesOfEachLift();
        shunts();
        freeByCycles();
        fewest();
        fewestByCycles();
        fewestTriesAnew();
        proofs();
        mornings();
        evenings();
        plans();
        plansAsIfEmpty();
        CHECK.end();
    }

    private static String keys(int cars) {
        StringBuilder notes = new StringBuilder();
        for (int car = 0; car < cars; car++) {
            notes.append("note(").append(car).append(", 0, true)\n");
        }
        return notes.toString();
    }

    private static void kinds() {
        CHECK.promise(3);
        CHECK.words("LANES 0, 1, .. (at most 5) are of a kind: 0 ROW, 1 LIFT under it, 2 LOW under ROW, 3 TOWER "
            + "under LIFT");
        CHECK.run("""
            all(0) = 0; lane(3, 1, 1, 1) = 0; lane(2, 1, 1, 1) = 1; lane(1, 1, 1, 1) = 2; lane(0, 1, 1, 1) = 3
            lane(3, 30, 30, 99) = 4; all(0) = 5
            as(0, 3) = 0; as(0, 1) = 0; as(0, 0) = 0; as(0, 2) = KIND
            as(1, 2) = 1; as(1, 0) = 1; as(1, 1) = KIND; as(1, 3) = KIND
            as(2, 1) = 2; as(2, 0) = 2; as(2, 2) = KIND; as(2, 3) = KIND
            as(3, 0) = 3; as(3, 1) = KIND; as(3, 2) = KIND; as(3, 3) = KIND
            laneIs(0, 0) = 3; laneIs(1, 0) = 2; laneIs(2, 0) = 1; laneIs(3, 0) = 0; laneIs(4, 0) = 3
            laneIs(0, 1) = 1; laneIs(0, 2) = 1; laneIs(4, 1) = 30; laneIs(4, 2) = 30; laneIs(4, 3) = 49
            breaks(0, true) = 1; breaks(1, true) = KIND; breaks(2, true) = 1; breaks(3, true) = KIND
            breaks(4, true) = 1
            """);
    }

    private static void loads() {
        CHECK.promise(4);
        CHECK.words("a LOAD (the most that a car may weigh, 1 to 99; of TOWERS half of it, cut)");
        for (int load = 1; load <= 99; load++) {
            for (int kind = 0; kind < 4; kind++) {
                int bears = kind == 3 ? (load - load % 2) / 2 : load;
                String desk = "lane(" + kind + ", 9, 9, " + load + "); laneIs(0, 3) = " + bears + "\n";
                if (bears >= 1) {
                    CHECK.run(desk + "car(1, 1, " + bears + ", 0, 0, 0); fits(0, 0) = 1; park(0, 0) = 1");
                }
                if (bears < 99) {
                    CHECK.run(desk + "car(1, 1, " + (bears + 1) + ", 0, 0, 0); fits(0, 0) = 0; park(0, 0) = KIND");
                }
            }
        }
    }

    private static void heights() {
        CHECK.promise(10);
        CHECK.words("A CAR FITS a LANE if its HEIGHT and WEIGHT are not above what the LANE bears");
        for (int height = 1; height <= 30; height++) {
            for (int kind = 0; kind < 4; kind++) {
                String desk = "lane(" + kind + ", 9, " + height + ", 99)\n";
                CHECK.run(desk + "car(1, " + height + ", 49, 0, 0, 0); fits(0, 0) = 1; park(0, 0) = 1");
                if (height < 30) {
                    CHECK.run(desk + "car(1, " + (height + 1) + ", 1, 0, 0, 0); fits(0, 0) = 0; "
                        + "park(0, 0) = KIND");
                }
            }
        }
        CHECK.words("Whether a CAR FITS a LANE (ROOM is not asked): 1, 0.");
        CHECK.run("""
            lane(1, 1, 9, 99); car(9, 9, 99, 0, 0, 0); car(1, 1, 1, 0, 0, 0)
            fits(0, 0) = 1; park(1, 0); fits(0, 0) = 1; fits(1, 0) = 1; breaks(0, true); fits(0, 0) = 1
            """);
    }

    private static void room() {
        CHECK.promise(11);
        CHECK.words("there is ROOM if the LENGTHS of all that are there, and its own, are the LANE'S LENGTH at "
            + "most");
        for (int length = 1; length <= 30; length++) {
            for (int own = 1; own <= 9; own++) {
                String eight = ("car(" + own + ", 1, 1, 0, 0, 0)\n").repeat(8);
                Run run = CHECK.run("lane(0, " + length + ", 9, 99)\n" + eight);
                for (int car = 0; car < 8; car++) {
                    int left = length - own * car;
                    run.told("laneIs(0, 5) = " + Math.max(left, length % own) + "; laneIs(0, 4) = "
                        + Math.min(car, length / own));
                    run.told("park(" + car + ", 0) = " + (left >= own ? String.valueOf(car + 1) : "FULL"));
                }
            }
        }
        CHECK.run("""
            lane(0, 30, 9, 99); car(9, 1, 1, 0, 0, 0); car(9, 1, 1, 0, 0, 0); car(9, 1, 1, 0, 0, 0)
            car(4, 1, 1, 0, 0, 0)
            car(3, 1, 1, 0, 0, 0); park(0, 0); park(1, 0); park(2, 0); laneIs(0, 5) = 3; park(3, 0) = FULL
            park(4, 0) = 4; laneIs(0, 5) = 0; leave(4); laneIs(0, 5) = 3; park(3, 0) = FULL; leave(2)
            park(3, 0) = 3
            """);
    }

    private static void places() {
        CHECK.promise(9);
        CHECK.words("A CAR is OUT (at first), or in a LANE, behind those that came there ahead of it; the one "
            + "that came last is at the FRONT.");
        Run run = CHECK.run("lane(0, 8, 9, 99)\n" + CAR.repeat(8));
        for (int i = 0; i < 8; i++) {
            int car = i * 3 % 8;
            run.told("carIs(" + car + ", 6) = -1; carIs(" + car + ", 7) = 0; all(2) = " + i + "; at(0, " + i
                + ") = NONE\n");
            run.told("park(" + car + ", 0) = " + (i + 1) + "; at(0, " + i + ") = " + car + "; carIs(" + car
                + ", 6) = 0\n");
        }
        int ahead = 0;
        for (int i = 7; i >= 0; i--) {
            int car = i * 3 % 8;
            run.told("carIs(" + car + ", 7) = " + (7 - i) + "; ahead(" + car + ") = " + ahead);
            ahead |= 1 << car;
        }
        run.told("at(0, 8) = NONE; leave(0) = STUCK; leave(5) = 0; at(0, 7) = NONE; at(0, 6) = 2; "
            + "park(5, 0) = 8; at(0, 7) = 5");
    }

    private static void broken() {
        CHECK.promise(5);
        CHECK.words("A LIFT (TOWER too) may be BROKEN: nothing comes to it or leaves it then.");
        for (int kind = 1; kind <= 3; kind += 2) {
            CHECK.run("lane(" + kind + ", 9, 9, 99); lane(0, 9, 9, 99)\n" + CAR.repeat(3) + """
                note(0, 0, true); note(1, 0, true); park(0, 0); park(1, 1); laneIs(0, 7) = 0
                breaks(0, false) = 0; breaks(0, true) = 1; breaks(0, true) = 0; laneIs(0, 7) = 1
                park(2, 0) = STUCK; leave(0) = STUCK; shunt(0, 1) = STUCK; shunt(1, 0) = STUCK; fewest(0) = NONE
                rescue() = 0; at(0, 0) = 0; carIs(0, 6) = 0; ahead(0) = 0; night() = 1; laneIs(0, 7) = 1
                leave(0) = STUCK
                breaks(0, false) = 1; laneIs(0, 7) = 0; shunt(0, 1) = 1; shunt(1, 0) = STUCK; shunt(0, 0) = 2
                leave(0) = 0
                """);
        }
    }

    private static void cycles() {
        CHECK.promise(11);
        CHECK.words("Each time that a CAR comes to a LIFT or leaves it is a CYCLE; there may be 12 of each LIFT "
            + "a night (night() begins a new one).");
        for (int kind = 0; kind < 4; kind++) {
            Run run = CHECK.run("lane(" + kind + ", 9, 9, 99)\n" + CAR);
            boolean lift = kind == 1 || kind == 3;
            for (int i = 0; i < 12; i++) {
                run.told("laneIs(0, 6) = " + (lift ? i : 0));
                run.told(i % 2 == 0 ? "park(0, 0) = 1" : "leave(0) = 0");
            }
            run.told(lift ? "laneIs(0, 6) = 12; park(0, 0) = STUCK; night() = 12"
                : "laneIs(0, 6) = 0; park(0, 0) = 1; night() = 0");
            run.told("laneIs(0, 6) = 0" + (lift ? "; park(0, 0) = 1; laneIs(0, 6) = 1" : ""));
        }
        // With one car that stays, the twelfth is a car that comes, and none leaves any more.
        CHECK.run("lane(1, 9, 9, 99)\n" + CAR.repeat(2) + "park(0, 0); laneIs(0, 6) = 1\n"
            + "park(1, 0); leave(1)\n".repeat(5)
            + "laneIs(0, 6) = 11; park(1, 0) = 2; laneIs(0, 6) = 12; leave(1) = STUCK; night() = 12; "
            + "leave(1) = 0; laneIs(0, 6) = 1");
    }

    private static void cyclesOfEachLift() {
        CHECK.promise(14);
        CHECK.words("A new night: CYCLES are 0, the hour is 0: how many CYCLES there were, all together.");
        Run run = CHECK.run("lane(1, 9, 9, 99); lane(3, 9, 9, 99); lane(1, 9, 9, 99); lane(3, 9, 9, 99); "
            + "lane(1, 9, 9, 99)\n" + CAR);
        for (int lane = 0; lane < 5; lane++) {
            run.told(("park(0, " + lane + "); leave(0)\n").repeat(6) + "laneIs(" + lane + ", 6) = 12; park(0, "
                + lane + ") = STUCK");
        }
        run.told("hour(23) = 0; night() = 60; hour(5) = 0; night() = 0; hour(0) = 0");
        for (int lane = 0; lane < 5; lane++) {
            run.told("laneIs(" + lane + ", 6) = 0; park(0, " + lane + ") = 1; leave(0)");
        }
        run.told("night() = 10; undo(); laneIs(4, 6) = 2; night() = 10");
        CHECK.run("night() = 0; hour(1) = 0");
    }

    private static void shunts() {
        CHECK.promise(12);
        CHECK.words("A SHUNT takes the CAR at the FRONT of a LANE to the FRONT of another one");
        CHECK.run("lane(0, 3, 9, 99); lane(0, 3, 9, 99)\n" + CAR.repeat(4) + """
            note(1, 0, true); park(0, 0); park(1, 0); park(2, 1); park(3, 1)
            shunt(1, 1) = 1; at(0, 0) = 0; at(0, 1) = NONE; at(1, 0) = 2; at(1, 1) = 3; at(1, 2) = 1; ahead(2) = 10
            """);
        CHECK.words("the CAR has a KEY (below), FITS there, there is ROOM, neither is BROKEN, neither would "
            + "have more than 12 CYCLES.");
        for (int length = 1; length <= 4; length++) {
            for (int height = 3; height <= 5; height++) {
                for (int load = 39; load <= 42; load++) {
                    String due = load < 40 || height < 4 ? "KIND" : length < 3 ? "FULL" : "1";
                    CHECK.run("lane(0, 9, 9, 99); lane(3, " + length + ", " + height + ", " + load + ")\n"
                        + "car(3, 4, 20, 0, 0, 0); note(0, 0, true); park(0, 0); shunt(0, 1) = " + due);
                }
            }
        }
        CHECK.words("A SHUNT in the hour that it is: how many were done ever.");
        Run run = CHECK.run("lane(0, 9, 9, 99); lane(2, 9, 9, 99)\n" + CAR + "note(0, 0, true); park(0, 0)\n");
        for (int i = 1; i <= 100; i++) {
            run.told("shunt(0, " + i % 2 + ") = " + i + "; all(5) = " + Math.min(i, 60));
        }
        run.told("all(3) = 100; laneIs(0, 6) = 0; laneIs(1, 6) = 0; undo() = 15; all(3) = 99; all(5) = 60; "
            + "shunt(0, 0) = 100");
    }

    private static void freeByCycles() {
        CHECK.promise(13);
        CHECK.words("A CAR is FREE if it is at the FRONT of a LANE that is not BROKEN and has CYCLES left (of "
            + "ROWS always).");
        String twelve = "park(1, 0); leave(1)\n".repeat(5) + "park(0, 0)\n";
        CHECK.run("lane(1, 9, 9, 99); lane(0, 9, 9, 99)\n" + CAR.repeat(2) + "note(0, 0, true)\n" + twelve
            + "laneIs(0, 6) = 11; fewest(0) = 0; shunt(0, 1) = 1; laneIs(0, 6) = 12; shunt(0, 0) = STUCK; "
            + "undo(); leave(0) = 0");
        CHECK.run("lane(3, 9, 9, 99); lane(0, 9, 9, 99)\n" + CAR.repeat(3) + "note(0, 0, true); park(2, 0)\n"
            + twelve
            + "laneIs(0, 6) = 12; fewest(0) = NONE; shunt(0, 1) = STUCK; leave(0) = STUCK; night() = 12; "
            + "leave(0) = 0; leave(2) = 0");
        Run row = CHECK.run("lane(0, 9, 9, 99); lane(2, 9, 9, 99)\n" + CAR);
        for (int i = 0; i < 15; i++) {
            row.told("park(0, 0) = 1; fewest(0) = 0; leave(0) = 0; park(0, 1) = 1; fewest(0) = 0; leave(0) = 0");
        }
        row.told("laneIs(0, 6) = 0; laneIs(1, 6) = 0");
    }

    private static void fewest() {
        CHECK.promise(17);
        CHECK.words("FEWEST for a CAR that is in a LANE: of the rows of at most 3 SHUNTS of other CARS behind "
            + "which it is FREE the shortest (of 0, if it is)");
        Run five = CHECK.run("lane(0, 9, 9, 99); lane(0, 9, 9, 99)\n" + CAR.repeat(6) + keys(6)
            + "park(0, 0); park(1, 0); park(2, 0); park(3, 0); park(4, 0)\n");
        five.told("fewest(4) = 0; fewest(3) = 1; fewest(2) = 2; fewest(1) = 3; fewest(0) = NONE; "
            + "fewest(5) = NONE");
        five.told("step(4, 0) = NONE; step(3, 0) = 33; step(3, 1) = NONE; step(1, 0) = 33; step(1, 1) = 25; "
            + "step(1, 2) = 17; step(1, 3) = NONE");
        CHECK.words("SHUNTS are told as 8 times the CAR, and the LANE to which it goes.");
        CHECK.run("lane(1, 9, 9, 99); lane(0, 1, 1, 1); lane(0, 1, 1, 1); lane(0, 1, 1, 1); lane(0, 9, 9, 99)\n"
            + "car(2, 2, 2, 0, 0, 0)\n".repeat(8) + "note(7, 0, true); park(0, 0); park(7, 0); fewest(0) = 1; "
            + "step(0, 0) = 60\n"
            + "sheet(0, 8, 1); put(0, 0, 60); proves(0, 0) = -1; put(0, 0, 61); proves(0, 0) = 0; "
            + "put(0, 0, 59); proves(0, 0) = 0");
        // A chain: car 3 makes room for 2, that for 1, and that frees 0. With car 4 ahead of them it is too long.
        CHECK.run("lane(0, 9, 9, 99); lane(0, 3, 9, 30); lane(0, 3, 9, 20); lane(0, 3, 9, 10); lane(0, 3, 1, 1)\n"
            + "car(3, 1, 9, 0, 0, 0); car(3, 9, 30, 0, 0, 0); car(3, 9, 20, 0, 0, 0); car(3, 9, 10, 0, 0, 0); "
            + "car(3, 1, 1, 0, 0, 0)\n"
            + keys(5) + "park(0, 0); park(1, 0); park(2, 1); park(3, 2); fewest(0) = 3; step(0, 0) = 27; "
            + "step(0, 1) = 18; step(0, 2) = 9\n"
            + "step(0, 3) = NONE; park(4, 3); fewest(0) = NONE; step(0, 0) = NONE; shunt(4, 4); fewest(0) = 3");
        CHECK.words("of several the first (by the first SHUNT that differs, the least number).");
        CHECK.run("lane(0, 9, 9, 99); lane(0, 6, 9, 99); lane(0, 3, 9, 99)\n"
            + "car(3, 1, 1, 0, 0, 0)\n".repeat(4) + keys(4)
            + "park(2, 0); park(1, 0); park(0, 0); park(3, 1); fewest(2) = 2; step(2, 0) = 1; step(2, 1) = 10\n"
            + "leave(3); step(2, 0) = 1; step(2, 1) = 9");
        // A row of three: by the first of them, a car that is not in the way goes first.
        CHECK.run("lane(0, 9, 9, 99); lane(0, 3, 9, 99); lane(0, 3, 9, 99); lane(0, 1, 9, 99)\n"
            + "car(1, 1, 1, 0, 0, 0); car(3, 1, 1, 0, 0, 0); car(3, 1, 1, 0, 0, 0); car(3, 1, 1, 0, 0, 0)\n"
            + keys(4)
            + "park(3, 0); park(2, 0); park(1, 0); park(0, 1); fewest(3) = 3; step(3, 0) = 3; step(3, 1) = 9; "
            + "step(3, 2) = 18");
    }

    /** In a lift the cycles that the row itself spends are asked, too. */
    private static void fewestByCycles() {
        CHECK.promise(17);
        CHECK.words("neither is BROKEN, neither would have more than 12 CYCLES");
        String desk = "lane(1, 9, 9, 99); lane(0, 9, 9, 99)\n" + CAR.repeat(6) + "note(0, 0, true); "
            + "note(1, 0, true); note(2, 0, true)\n";
        int[] before = {1, 2, 3, 4, 5};
        for (int times : before) {
            String spent = "park(5, 0); leave(5)\n".repeat(times);
            int behind = 2 * times + 3;
            if (behind <= 12) {
                boolean one = behind + 1 < 12;
                boolean two = behind + 2 < 12;
                CHECK.run(desk + spent + "park(2, 0); park(1, 0); park(0, 0); laneIs(0, 6) = " + behind
                    + "; fewest(0) = 0; fewest(1) = " + (one ? "1" : "NONE")
                    + "; fewest(2) = " + (two ? "2" : "NONE"));
            }
            int there = 2 * times + 1;
            boolean oneMore = there + 1 <= 12;
            boolean twoMore = there + 2 <= 12;
            CHECK.run(desk + "park(4, 0)\n" + spent + "laneIs(0, 6) = " + there
                + "; park(3, 1); park(1, 1); park(0, 1); fewest(3) = " + (twoMore ? "2" : "NONE")
                + "; fewest(1) = " + (oneMore ? "1" : "NONE"));
        }
    }

    /** What was tried and did not free the car has spent no cycles, and has not won any. */
    private static void fewestTriesAnew() {
        CHECK.promise(17);
        CHECK.words("of the rows of at most 3 SHUNTS of other CARS behind which it is FREE the shortest");
        String rows = "lane(0, 9, 9, 99); lane(0, 9, 9, 99); lane(2, 9, 9, 99); lane(0, 9, 9, 99)\n";
        CHECK.run("lane(1, 9, 9, 99)\n" + rows + CAR.repeat(4) + keys(3) + "park(3, 0); leave(3)\n".repeat(4)
            + "park(2, 0); park(1, 0); park(0, 0); laneIs(0, 6) = 11; fewest(2) = NONE; fewest(1) = NONE; "
            + "fewest(0) = 0; laneIs(0, 6) = 11");
        CHECK.run("lane(0, 9, 9, 99); lane(1, 9, 9, 99); lane(0, 1, 9, 99)\n" + CAR.repeat(6) + keys(4)
            + "park(5, 1)\n" + "park(4, 1); leave(4)\n".repeat(4)
            + "park(3, 0); park(2, 0); park(1, 0); park(0, 2); laneIs(1, 6) = 9; fewest(3) = 2; step(3, 0) = 9; "
            + "step(3, 1) = 17\n"
            + "park(4, 1); leave(4); laneIs(1, 6) = 11; fewest(3) = NONE; fewest(2) = 1; laneIs(1, 6) = 11");
        CHECK.run("lane(1, 9, 9, 99); lane(0, 1, 9, 99); lane(0, 1, 9, 1)\n" + "car(1, 1, 1, 0, 0, 0); "
            + "car(1, 1, 2, 0, 0, 0)\n" + CAR.repeat(2) + keys(3)
            + "park(3, 0); leave(3)\n".repeat(3) + "park(0, 0); park(1, 0); park(2, 0); laneIs(0, 6) = 9; "
            + "fewest(0) = 2; step(0, 0) = 18; step(0, 1) = 9; laneIs(0, 6) = 9");
    }

    private static void proofs() {
        CHECK.promise(19);
        CHECK.words("-1 (no finding); else the place of the first that can't be, or how many there are.");
        String desk = "lane(0, 9, 9, 99); lane(0, 9, 9, 99)\n" + CAR.repeat(3) + "note(1, 0, true); park(0, 0); "
            + "park(1, 0)\n";
        for (int n = 0; n <= 20; n++) {
            StringBuilder row = new StringBuilder("sheet(0, 8, " + n + ")\n");
            for (int i = 0; i < n; i++) {
                row.append("put(0, ").append(i).append(", ").append(9 - i % 2).append(")\n");
            }
            String there = row.toString();
            CHECK.run(desk + there + "proves(0, 0) = " + (n % 2 == 1 ? -1 : n) + "; proves(1, 0) = "
                + (n == 0 ? -1 : 0) + "; all(3) = 0");
            for (int i = 0; i < n; i++) {
                CHECK.run(desk + there + "put(0, " + i + ", 17); proves(0, 0) = " + i);
            }
        }
        CHECK.words("one of the CAR itself can't be");
        CHECK.run(desk + "note(0, 0, true); sheet(0, 8, 1); put(0, 0, 9); proves(1, 0) = 0; proves(0, 0) = -1; "
            + "proves(2, 0) = NONE\n"
            + "sheet(0, 8, 2); put(0, 0, 9); put(0, 1, 1); proves(0, 0) = 1; all(6) = 1");
        CHECK.words("(KEYS in the hour that it is; RULES are not asked;");
        CHECK.run(desk + "note(1, 4, false); sheet(0, 8, 1); put(0, 0, 10); text(0); put(0, 0, 9); "
            + "shunt(1, 1) = BARRED; proves(0, 0) = -1\n"
            + "fewest(0) = 1; hour(3); proves(0, 0) = -1; hour(4); proves(0, 0) = 0; fewest(0) = NONE; "
            + "shunt(1, 1) = MISSING");
    }

    private static void mornings() {
        CHECK.promise(20);
        CHECK.words("MORNING of a LANE: 2 for each two CARS in it of which the one nearer to the FRONT leaves "
            + "at a later HOUR than the other.");
        for (int n = 0; n <= 8; n++) {
            StringBuilder up = new StringBuilder("lane(0, 8, 9, 99); lane(0, 9, 9, 99); morning(0) = 0; "
                + "morning(-1) = 0\n");
            StringBuilder down = new StringBuilder(up);
            StringBuilder like = new StringBuilder(up);
            for (int car = 0; car < n; car++) {
                up.append("car(1, 1, 1, ").append(car + 16).append(", 0, 0); park(").append(car).append(", 0)\n");
                down.append("car(1, 1, 1, ").append(7 - car).append(", 0, 0); park(").append(car).append(", 0)\n");
                like.append("car(1, 1, 1, 23, 0, 0); park(").append(car).append(", 0)\n");
            }
            CHECK.run(up + "morning(0) = " + n * (n - 1) + "; morning(1) = 0; morning(-1) = " + n * (n - 1));
            CHECK.run(down + "morning(0) = 0; morning(-1) = 0");
            CHECK.run(like + "morning(0) = 0; morning(-1) = 0");
        }
        CHECK.run("morning(-1) = 0; morning(0) = BEYOND; morning(-2) = BEYOND");
        CHECK.run("""
            lane(0, 9, 9, 99); lane(1, 9, 9, 99); car(1, 1, 1, 0, 0, 0); car(1, 1, 1, 1, 0, 0)
            car(1, 1, 1, 22, 0, 0)
            car(1, 1, 1, 23, 0, 0); park(0, 0); park(1, 0); park(2, 1); park(3, 1); morning(0) = 2; morning(1) = 2
            morning(-1) = 4; breaks(1, true); morning(1) = 2; tell(3, 0, 22); morning(1) = 0; morning(-1) = 2
            """);
    }

    private static void evenings() {
        CHECK.promise(21);
        CHECK.words("AN EVENING: CARS that arrive, in an order (at most 7; each once; they may be anywhere now).");
        CHECK.run("lane(0, 2, 9, 99); lane(1, 9, 9, 99)\n" + CAR.repeat(8) + """
            park(0, 0); park(1, 0); park(2, 1); breaks(1, true); arrive(7) = 1; arrive(7) = TAKEN; arrive(0) = 2
            arrive(2) = 3
            arrive(1) = 4; arrive(0) = TAKEN; arrive(3) = 5; arrive(4) = 6; arrive(5) = 7; arrive(6) = FULL
            arrive(5) = TAKEN
            carIs(0, 6) = 0; carIs(7, 6) = -1; leave(1) = 0; arrive(1) = TAKEN; clear() = 7; clear() = 0
            arrive(6) = 1
            """);
        CHECK.promise(22);
        CHECK.words("THE EVENING has no CARS: how many it had.");
        for (int n = 0; n <= 7; n++) {
            Run run = CHECK.run(CAR.repeat(8));
            for (int car = 0; car < n; car++) {
                run.told("arrive(" + car + ") = " + (car + 1));
            }
            run.told("clear() = " + n + "; clear() = 0; plan() = 0; arrive(0) = 1");
        }
    }

    private static void plans() {
        CHECK.promise(23);
        CHECK.words("each FITS, there is ROOM for all of a LANE, they stand in the order in which they arrive; "
            + "MORNINGS of all LANES together are the least");
        CHECK.run("plan() = 0; lane(0, 1, 1, 1); plan() = 0");
        for (int n = 0; n <= 7; n++) {
            StringBuilder cars = new StringBuilder();
            StringBuilder back = new StringBuilder();
            for (int car = 0; car < 7; car++) {
                cars.append("car(1, 1, 1, ").append(car).append(", 0, 0)\n");
            }
            for (int i = 0; i < n; i++) {
                cars.append("arrive(").append(i).append(")\n");
                back.append("arrive(").append(n - 1 - i).append(")\n");
            }
            String one = "lane(0, " + Math.max(1, n) + ", 9, 99)\n";
            CHECK.run(cars + one + "plan() = " + n * (n - 1));
            CHECK.run(cars + one + "clear(); " + back + "plan() = 0");
            if (n > 1) {
                CHECK.run(cars + "lane(0, " + (n - 1) + ", 9, 99); plan() = NONE");
                int half = n / 2;
                int rest = n - half;
                CHECK.run(cars + "lane(0, 9, 9, 99); lane(0, 9, 9, 99); plan() = " + (half * (half - 1)
                    + rest * (rest - 1)));
            }
        }
        CHECK.run("""
            lane(0, 9, 4, 99); lane(3, 9, 5, 41); car(1, 5, 20, 1, 0, 0); car(1, 5, 21, 1, 0, 0)
            car(1, 4, 99, 1, 0, 0)
            car(1, 4, 20, 9, 0, 0); arrive(0); plan() = 0; planned(0) = 1; arrive(2); plan() = 0; planned(2) = 0
            arrive(3); plan() = 2; planned(3) = 0; arrive(1); plan() = NONE; planned(0) = NONE
            """);
        // The first one would have the first lane, but leaves it to one that is too long for the other.
        CHECK.run("lane(0, 3, 9, 99); lane(0, 2, 9, 99); car(2, 1, 1, 1, 0, 0); car(3, 1, 1, 9, 0, 0); "
            + "arrive(0); planned(0) = 0; arrive(1)\n"
            + "plan() = 0; planned(0) = 1; planned(1) = 0; plan() = 0; clear(); arrive(1); arrive(0); "
            + "plan() = 0; planned(0) = 1; planned(1) = 0");
        CHECK.promise(24);
        CHECK.words("of several the first, CAR by CAR as they arrive, by LANES' numbers.");
        CHECK.run("""
            lane(0, 2, 9, 99); lane(0, 2, 9, 99); lane(0, 2, 9, 99); car(1, 1, 1, 5, 0, 0); car(1, 1, 1, 5, 0, 0)
            car(1, 1, 1, 5, 0, 0)
            car(1, 1, 1, 5, 0, 0); car(2, 1, 1, 5, 0, 0); car(1, 1, 1, 6, 0, 0)
            arrive(3); arrive(1); arrive(0); plan() = 0; planned(3) = 0; planned(1) = 0; planned(0) = 1
            arrive(4); plan() = 0; planned(4) = 2; planned(0) = 1; arrive(2); plan() = 0; planned(2) = 1
            arrive(5); plan() = NONE
            clear(); arrive(0); arrive(4); arrive(1); planned(0) = 0; planned(4) = 1; planned(1) = 0
            tell(1, 0, 6); plan() = 0; planned(1) = 2
            """);
    }

    private static void plansAsIfEmpty() {
        CHECK.promise(23);
        CHECK.words("THE PLAN: a LANE for each, as if all LANES were empty at first, none BROKEN and CYCLES not "
            + "asked");
        CHECK.run("lane(1, 2, 9, 99)\n" + "car(1, 1, 1, 3, 0, 0)\n".repeat(4) + "arrive(2); arrive(3); "
            + "plan() = 0; planned(3) = 0\n"
            + "park(2, 0); leave(2)\n".repeat(5) + "park(0, 0); park(1, 0); laneIs(0, 6) = 12; "
            + "laneIs(0, 5) = 0; breaks(0, true)\n"
            + "plan() = 0; planned(2) = 0; planned(3) = 0; tell(3, 0, 4); plan() = 2; arrive(1); plan() = NONE; "
            + "planned(2) = NONE");
    }
}
