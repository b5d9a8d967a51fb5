/** One object and the calls that are made on it, told as texts; never more than the document allows. */
final class Run {
    private static final int MOST_CALLS = 512;

    private final Check check;
    private final CellarCars x = new CellarCars();
    private int calls = 0;

    Run(Check check) {
        this.check = check;
    }

    int make(String call) {
        calls++;
        if (calls > MOST_CALLS) {
            throw new IllegalStateException("call " + calls + " of one object: " + call);
        }
        return Calls.make(x, call);
    }

    /**
     * Makes the calls of a text, parted by ';' or lines; what follows '#' in a line is a remark. "call =
     * answer" is compared with what is due; a call alone must answer no finding.
     */
    Run told(String text) {
        for (String line : text.split("\n")) {
            for (String call : line.replaceAll("#.*", "").split(";")) {
                if (!call.isBlank()) {
                    one(call);
                }
            }
        }
        return this;
    }

    private void one(String told) {
        String[] parts = told.split(" = ");
        String call = parts[0].trim();
        int got = make(call);
        if (parts.length > 1) {
            check.due(call, got, Calls.answer(parts[1].trim()));
        } else if (Calls.isFinding(got)) {
            check.due(call + " answers no finding", got, 0);
        }
    }

    /**
     * All that can be asked but the count of findings, as one text. What only an act tells (the hour, bids,
     * ..) comes last, since it is changed by asking: a run ends with this.
     */
    String seen() {
        StringBuilder seen = new StringBuilder();
        int lanes = make("all(0)");
        int cars = make("all(1)");
        for (int what = 0; what < 6; what++) {
            see(seen, "all(" + what + ")");
        }
        for (int lane = 0; lane < lanes; lane++) {
            seeEach(seen, "laneIs(" + lane + ", #)", 0, 7);
            seeEach(seen, "at(" + lane + ", #)", 0, make("laneIs(" + lane + ", 4)"));
        }
        for (int car = 0; car < cars; car++) {
            seeCar(seen, car);
        }
        seeEach(seen, "charging(#)", 0, 23);
        seeEach(seen, "given(#)", 0, 4);
        seeEach(seen, "rent(#)", 0, 4);
        seeEach(seen, "rescued(#)", 0, make("all(2)"));
        for (String call : new String[] {"plan()", "charged()", "giving()", "wrong()", "rescue()",
            "morning(-1)"}) {
            see(seen, call);
        }
        seeByActs(seen, lanes);
        return seen.toString();
    }

    private void see(StringBuilder seen, String call) {
        seen.append(call).append(" = ").append(make(call)).append('\n');
    }

    private void seeEach(StringBuilder seen, String call, int first, int last) {
        for (int v = first; v <= last; v++) {
            see(seen, call.replace("#", String.valueOf(v)));
        }
    }

    private void seeCar(StringBuilder seen, int car) {
        seeEach(seen, "carIs(" + car + ", #)", 0, 7);
        see(seen, "planned(" + car + ")");
        int shunts = make("fewest(" + car + ")");
        seen.append("fewest ").append(shunts).append('\n');
        seeEach(seen, "step(" + car + ", #)", 0, shunts - 1);
        int notes = make("all(4)");
        for (int hour = 0; hour < 24; hour += 5) {
            see(seen, "key(" + car + ", " + hour + ", " + notes + ")");
        }
        int last = Calls.isFinding(make("harm(" + car + ", 0, 9999)")) ? 0 : 3;
        seeEach(seen, "harm(" + car + ", #, 9999)", 0, last);
    }

    private void seeByActs(StringBuilder seen, int lanes) {
        int lets = lanes > 0 ? 6 : -1;
        seeEach(seen, "lets(0, 0, #)", 0, lets);
        for (int s = 0; s < 4; s++) {
            see(seen, "proves(0, " + s + ")");
            see(seen, "text(" + s + ")");
            see(seen, "wrong()");
            seeEach(seen, "lets(0, 0, #)", 2, lets);
        }
        for (int tenant = 0; tenant < 5; tenant++) {
            seeEach(seen, "bid(" + tenant + ", #, 0)", 0, 4);
        }
        seeEach(seen, "flood(#, 0)", 0, lanes - 1);
        for (String act : new String[] {"hour(0)", "porter(0)", "pace(1)", "chargers(0)", "clear()"}) {
            see(seen, act);
        }
    }
}
