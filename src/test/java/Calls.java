import java.util.Arrays;

/** Makes the calls of the face by their names or numbers, so that tests can tell runs as texts. */
final class Calls {
    static final String[] NAMES = {"lane", "as", "laneIs", "breaks", "car", "carIs", "tell", "at",
        "fits", "park", "shunt", "leave", "night", "hour", "ahead", "fewest", "step", "proves", "morning",
        "arrive", "clear", "plan", "planned", "chargers", "charged", "charging", "bid", "given", "rent",
        "giving", "porter", "look", "harm", "text", "wrong", "lets", "flood", "pace", "rescue", "rescued",
        "note", "key", "sheet", "put", "copy", "undo", "all"};
    private static final int[] PARAMETERS = {4, 2, 2, 2, 6, 2, 3, 2,
        2, 2, 2, 1, 0, 1, 1, 1, 2, 2, 1,
        1, 0, 0, 1, 1, 0, 1, 3, 1, 1,
        0, 1, 2, 3, 1, 0, 3, 2, 1, 0, 1,
        3, 3, 3, 3, 5, 0, 1};
    private static final String[] FINDINGS = {"BEYOND", "MISSING", "SIZE", "KIND", "FULL", "NONE", "TAKEN",
        "STUCK", "BARRED"};

    private Calls() {
    }

    static int number(String name) {
        return Arrays.asList(NAMES).indexOf(name);
    }

    /** What an answer that is told as text means: a number, or the name of a finding. */
    static int answer(String told) {
        int finding = Arrays.asList(FINDINGS).indexOf(told);
        return finding < 0 ? Integer.parseInt(told) : -100001 - finding;
    }

    static boolean isFinding(int answer) {
        return answer < -99999;
    }

    /** Makes a call that is told as it is written, as "park(0, 1)"; MIN and MAX are the ends of int. */
    static int make(CellarCars x, String call) {
        int open = call.indexOf('(');
        int which = open < 0 ? -1 : number(call.substring(0, open).trim());
        if (which < 0 || !call.endsWith(")")) {
            throw new IllegalArgumentException("no such call: " + call);
        }
        String inside = call.substring(open + 1, call.length() - 1).trim();
        String[] told = inside.isEmpty() ? new String[0] : inside.split(",");
        if (told.length != PARAMETERS[which]) {
            throw new IllegalArgumentException("not as many parameters: " + call);
        }
        int[] a = new int[6];
        for (int i = 0; i < told.length; i++) {
            a[i] = parameter(told[i].trim());
        }
        return make(x, which, a);
    }

    private static int parameter(String told) {
        switch (told) {
            case "true": return 1;
            case "false": return 0;
            case "MIN": return Integer.MIN_VALUE;
            case "MAX": return Integer.MAX_VALUE;
            default: return Integer.parseInt(told);
        }
    }

    /** A boolean is an odd number. */
    static int make(CellarCars x, int which, int[] a) {
        switch (NAMES[which]) {
            case "lane": return x.lane(a[0], a[1], a[2], a[3]);
            case "as": return x.as(a[0], a[1]);
            case "laneIs": return x.laneIs(a[0], a[1]);
            case "breaks": return x.breaks(a[0], (a[1] & 1) == 1);
            case "car": return x.car(a[0], a[1], a[2], a[3], a[4], a[5]);
            case "carIs": return x.carIs(a[0], a[1]);
            case "tell": return x.tell(a[0], a[1], a[2]);
            case "at": return x.at(a[0], a[1]);
            case "fits": return x.fits(a[0], a[1]);
            case "park": return x.park(a[0], a[1]);
            case "shunt": return x.shunt(a[0], a[1]);
            case "leave": return x.leave(a[0]);
            case "night": return x.night();
            case "hour": return x.hour(a[0]);
            case "ahead": return x.ahead(a[0]);
            case "fewest": return x.fewest(a[0]);
            case "step": return x.step(a[0], a[1]);
            case "proves": return x.proves(a[0], a[1]);
            case "morning": return x.morning(a[0]);
            case "arrive": return x.arrive(a[0]);
            case "clear": return x.clear();
            case "plan": return x.plan();
            case "planned": return x.planned(a[0]);
            case "chargers": return x.chargers(a[0]);
            case "charged": return x.charged();
            case "charging": return x.charging(a[0]);
            default: return makeLater(x, which, a);
        }
    }

    private static int makeLater(CellarCars x, int which, int[] a) {
        switch (NAMES[which]) {
            case "bid": return x.bid(a[0], a[1], a[2]);
            case "given": return x.given(a[0]);
            case "rent": return x.rent(a[0]);
            case "giving": return x.giving();
            case "porter": return x.porter(a[0]);
            case "look": return x.look(a[0], (a[1] & 1) == 1);
            case "harm": return x.harm(a[0], a[1], a[2]);
            case "text": return x.text(a[0]);
            case "wrong": return x.wrong();
            case "lets": return x.lets(a[0], a[1], a[2]);
            case "flood": return x.flood(a[0], a[1]);
            case "pace": return x.pace(a[0]);
            case "rescue": return x.rescue();
            case "rescued": return x.rescued(a[0]);
            case "note": return x.note(a[0], a[1], (a[2] & 1) == 1);
            case "key": return x.key(a[0], a[1], a[2]);
            case "sheet": return x.sheet(a[0], a[1], a[2]);
            case "put": return x.put(a[0], a[1], a[2]);
            case "copy": return x.copy(a[0], a[1], a[2], a[3], a[4]);
            case "undo": return x.undo();
            default: return x.all(a[0]);
        }
    }
}
