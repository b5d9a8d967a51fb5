import java.util.HashMap;
import java.util.Map;

/** "An act that answers a finding changes nothing": compares a desk with such an act to one without it. */
final class Refused {
    private final Check check;
    private final Map<String, String> seenBefore = new HashMap<>();

    Refused(Check check) {
        this.check = check;
    }

    /** On a desk that is told as a run of calls, a call answers a finding and changes nothing else. */
    void due(String desk, String call, String finding) {
        Run run = check.run(desk);
        int found = run.make("all(6)");
        check.due(call, run.make(call), Calls.answer(finding));
        check.due("all(6) behind " + call, run.make("all(6)"), found + 1);
        same(call + " changed what is seen", run.seen(), seenBefore.computeIfAbsent(desk, this::seen));
        Run undone = check.run(desk);
        undone.make(call);
        same(call + " changed what undo() brings back", seenUndone(undone),
            seenBefore.computeIfAbsent(desk + "; undo", key -> seenUndone(check.run(desk))));
    }

    private String seen(String desk) {
        return check.run(desk).seen();
    }

    private static String seenUndone(Run run) {
        return "undo() = " + run.make("undo()") + "\n" + run.seen();
    }

    private void same(String what, String is, String was) {
        if (!is.equals(was)) {
            String[] now = is.split("\n");
            String[] before = was.split("\n");
            int i = 0;
            while (i < now.length && i < before.length && now[i].equals(before[i])) {
                i++;
            }
            System.out.println("first other line: " + (i < now.length ? now[i] : "none") + ", it was "
                + (i < before.length ? before[i] : "none"));
        }
        check.that(what, is.equals(was));
    }
}
