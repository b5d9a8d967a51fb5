/** Runs as long as the document allows: "at most 512 calls after it has been made"; and what is counted ever. */
public final class WholeRunTest {
    private static final Check CHECK = new Check();

    public static void main(String[] args) {
        findings();
        noFindings();
        shunts();
        counts();
        CHECK.end();
    }

    private static void findings() {
        CHECK.promise(48);
        CHECK.words("6 how many acts answered a finding ever (this one, too, if it does).");
        CHECK.run("all(7) = BEYOND\n".repeat(511) + "all(6) = 511");
        CHECK.run("all(-1) = BEYOND; all(6) = 1; all(MAX) = BEYOND; all(MIN) = BEYOND; all(6) = 3; all(6) = 3; "
            + "hour(1); undo(); undo() = NONE; all(6) = 4");
        CHECK.run("hour(1); undo(); hour(24) = BEYOND; hour(2); undo(); all(6) = 1; night(); all(6) = 1");
    }

    /** Answers of -1, and those that are below 0 in no other way, are no findings. */
    private static void noFindings() {
        CHECK.words("OUT, no finding)");
        CHECK.run("""
            wrong() = -1; car(1, 1, 1, 0, 0, 0); carIs(0, 6) = -1; lane(0, 9, 9, 99); park(0, 0); sheet(0, 8, 0)
            proves(0, 0) = -1; morning(-1) = 0
            plan() = 0; rescue() = 0; charged() = 0; fits(0, 0) = 1; key(0, 0, 0) = 0; lets(0, 0, 0) = 1
            all(6) = 0
            """);
    }

    /** A car that goes to and fro until the last call: each shunt is counted, the latest 60 are led. */
    private static void shunts() {
        CHECK.promise(12);
        CHECK.words("A SHUNT in the hour that it is: how many were done ever.");
        Run run = CHECK.run("lane(0, 9, 9, 99); lane(2, 9, 9, 99); car(1, 1, 1, 0, 0, 0); note(0, 0, true); "
            + "park(0, 0); porter(3)\n");
        for (int i = 1; i <= 503; i++) {
            run.told("shunt(0, " + i % 2 + ") = " + i);
        }
        run.told("all(3) = 503; all(5) = 60; all(6) = 0");
    }

    private static void counts() {
        CHECK.promise(48);
        CHECK.words("0 LANES, 1 CARS, 2 CARS in LANES, 3 SHUNTS ever, 4 NOTES, 5 SHUNTS and LOOKS that are led");
        CHECK.run("""
            lane(0, 9, 9, 99); all(0) = 1; all(1) = 0; lane(0, 9, 9, 99); all(0) = 2; car(1, 1, 1, 0, 0, 0)
            all(1) = 1; all(2) = 0; park(0, 1); all(2) = 1
            car(1, 1, 1, 0, 0, 0); all(1) = 2; park(1, 0); all(2) = 2; all(4) = 0; note(0, 0, true)
            note(1, 3, false); all(4) = 2; all(3) = 0; all(5) = 0
            shunt(0, 0) = 1; all(2) = 2; all(3) = 1; all(5) = 1; look(1, true); all(3) = 1; all(5) = 2; leave(0)
            all(2) = 1; all(3) = 1; all(5) = 2
            undo(); undo(); all(5) = 1; undo(); all(3) = 0; all(5) = 0; all(2) = 2; all(4) = 2; undo()
            all(4) = 1; all(0) = 2; all(1) = 2
            """);
    }
}
