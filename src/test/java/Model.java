import java.util.ArrayDeque;
import java.util.ArrayList;
import java.util.Arrays;
import java.util.Deque;
import java.util.List;

/**
 * The document once more, written as literally and as wastefully as can be, to compare answers with.
 * Searches look at everything there is and pick by the document's order afterwards.
 */
final class Model {
    private static final class Finding extends RuntimeException {
        private static final long serialVersionUID = 1L;
        final int code;

        Finding(int code) {
            super(null, null, false, false);
            this.code = code;
        }
    }

    private static final class Lane {
        int kind;
        int length;
        int height;
        int load;
        int minute = 100;
        int cycles = 0;
        boolean broken = false;
        List<Integer> cars = new ArrayList<>();

        Lane twin() {
            Lane l = new Lane();
            l.kind = kind;
            l.length = length;
            l.height = height;
            l.load = load;
            l.minute = minute;
            l.cycles = cycles;
            l.broken = broken;
            l.cars = new ArrayList<>(cars);
            return l;
        }

        boolean lift() {
            return kind == 1 || kind == 3;
        }

        int bears() {
            return kind == 3 ? load / 2 : load;
        }

        boolean shut() {
            return lift() && (broken || cycles + 1 > 12);
        }
    }

    private static final class State {
        List<Lane> lanes = new ArrayList<>();
        List<int[]> cars = new ArrayList<>();
        List<Integer> evening = new ArrayList<>();
        List<int[]> led = new ArrayList<>();
        List<int[]> notes = new ArrayList<>();
        List<Integer> text = new ArrayList<>();
        int[][] bids = new int[5][5];
        int hour = 0;
        int chargers = 1;
        int porter = 0;
        int pace = 10;
        int shunts = 0;

        State twin() {
            State s = new State();
            for (Lane l : lanes) {
                s.lanes.add(l.twin());
            }
            for (int[] c : cars) {
                s.cars.add(c.clone());
            }
            s.evening.addAll(evening);
            s.led.addAll(led);
            s.notes.addAll(notes);
            s.text.addAll(text);
            for (int t = 0; t < 5; t++) {
                s.bids[t] = bids[t].clone();
            }
            s.hour = hour;
            s.chargers = chargers;
            s.porter = porter;
            s.pace = pace;
            s.shunts = shunts;
            return s;
        }

        int whereIs(int car) {
            for (int l = 0; l < lanes.size(); l++) {
                if (lanes.get(l).cars.contains(car)) {
                    return l;
                }
            }
            return -1;
        }

        boolean front(int car) {
            int l = whereIs(car);
            return l >= 0 && lanes.get(l).cars.indexOf(car) == lanes.get(l).cars.size() - 1;
        }

        boolean free(int car) {
            return front(car) && !lanes.get(whereIs(car)).shut();
        }

        boolean suits(int car, int lane) {
            return cars.get(car)[1] <= lanes.get(lane).height && cars.get(car)[2] <= lanes.get(lane).bears();
        }

        int left(int lane) {
            int sum = lanes.get(lane).length;
            for (int car : lanes.get(lane).cars) {
                sum -= cars.get(car)[0];
            }
            return sum;
        }

        boolean hasKey(int car, int atHour, int known) {
            boolean has = false;
            for (int from = 0; from <= atHour; from++) {
                for (int i = 0; i < known; i++) {
                    int[] n = notes.get(i);
                    if (n[0] == car && n[1] == from) {
                        has = n[2] == 1;
                    }
                }
            }
            return has;
        }

        boolean shuntable(int car, int lane) {
            return car >= 0 && car < cars.size() && lane >= 0 && lane < lanes.size() && whereIs(car) >= 0
                && whereIs(car) != lane && free(car) && !lanes.get(lane).shut() && suits(car, lane)
                && cars.get(car)[0] <= left(lane) && hasKey(car, hour, notes.size());
        }

        void come(int car, int lane) {
            lanes.get(lane).cars.add(car);
            lanes.get(lane).cycles += lanes.get(lane).lift() ? 1 : 0;
        }

        void go(int car) {
            Lane l = lanes.get(whereIs(car));
            l.cars.remove(Integer.valueOf(car));
            l.cycles += l.lift() ? 1 : 0;
        }
    }

    private State now = new State();
    private final Deque<State> past = new ArrayDeque<>();
    private final int[][] sheets = new int[4][];
    private final int[] bits = new int[4];
    private int findings = 0;

    private static void want(boolean holds, int finding) {
        if (!holds) {
            throw new Finding(finding);
        }
    }

    private static void within(int v, int least, int most) {
        want(v >= least && v <= most, Check.BEYOND);
    }

    private Lane laneOf(int lane) {
        within(lane, 0, now.lanes.size() - 1);
        return now.lanes.get(lane);
    }

    private int[] carOf(int car) {
        within(car, 0, now.cars.size() - 1);
        return now.cars.get(car);
    }

    private void inLane(int car) {
        carOf(car);
        want(now.whereIs(car) >= 0, Check.NONE);
    }

    private void keep() {
        past.push(now);
        now = now.twin();
        if (past.size() > 16) {
            past.removeLast();
        }
    }

    /** The call with this number in the face's order; a boolean is an odd number. */
    int call(int which, int[] a) {
        try {
            return which < 19 ? lanesAndShunts(which, a) : which < 37 ? middle(which, a) : rest(which, a);
        } catch (Finding f) {
            findings++;
            return f.code;
        }
    }

    /** A car at the front of a lane, from this one on around; -1 if all are out. No call, no finding. */
    int carAtFront(int from) {
        int lanes = now.lanes.size();
        for (int i = 0; i < lanes; i++) {
            List<Integer> cars = now.lanes.get((from + i) % lanes).cars;
            if (!cars.isEmpty()) {
                return cars.get(cars.size() - 1);
            }
        }
        return -1;
    }

    /** A lane to which that car could be shunted, from this one on around; -1 if there is none. */
    int laneFor(int car, int from) {
        int lanes = now.lanes.size();
        for (int i = 0; i < lanes; i++) {
            int lane = (from + i) % lanes;
            if (now.shuntable(car, lane)) {
                return lane;
            }
        }
        return -1;
    }

    /** FEWEST of a car that is in a lane, or an empty row. */
    int[] rowFor(int car) {
        try {
            return fewest(car);
        } catch (Finding f) {
            return new int[0];
        }
    }

    private int lanesAndShunts(int which, int[] a) {
        switch (which) {
            case 0: return lane(a[0], a[1], a[2], a[3]);
            case 1: return as(a[0], a[1]);
            case 2: return laneIs(a[0], a[1]);
            case 3: return breaks(a[0], (a[1] & 1) == 1);
            case 4: return car(a);
            case 5: return carIs(a[0], a[1]);
            case 6: return tell(a[0], a[1], a[2]);
            case 7:
                laneOf(a[0]);
                want(a[1] >= 0 && a[1] < laneOf(a[0]).cars.size(), Check.NONE);
                return laneOf(a[0]).cars.get(a[1]);
            case 8:
                carOf(a[0]);
                laneOf(a[1]);
                return now.suits(a[0], a[1]) ? 1 : 0;
            case 9: return park(a[0], a[1]);
            case 10: return shunt(a[0], a[1]);
            case 11: return leave(a[0]);
            case 12: return night();
            case 13: return hour(a[0]);
            case 14:
                inLane(a[0]);
                return aheadOf(a[0]);
            case 15: return fewest(a[0]).length;
            case 16:
                carOf(a[0]);
                want(a[1] >= 0, Check.BEYOND);
                int[] row = fewest(a[0]);
                want(a[1] < row.length, Check.NONE);
                return row[a[1]];
            case 17: return proves(a[0], a[1]);
            default: return morning(a[0]);
        }
    }

    private int middle(int which, int[] a) {
        switch (which) {
            case 19: return arrive(a[0]);
            case 20:
                int had = now.evening.size();
                keep();
                now.evening.clear();
                return had;
            case 21: return cost(bestPlan());
            case 22:
                carOf(a[0]);
                want(now.evening.contains(a[0]), Check.NONE);
                return bestPlan()[now.evening.indexOf(a[0])];
            case 23:
                within(a[0], 0, 3);
                keep();
                int were = now.chargers;
                now.chargers = a[0];
                return were;
            case 24: return charged();
            case 25:
                within(a[0], 0, 23);
                return charging(a[0]);
            case 26:
                within(a[0], 0, 4);
                within(a[1], 0, 4);
                within(a[2], 0, 999);
                keep();
                int bid = now.bids[a[0]][a[1]];
                now.bids[a[0]][a[1]] = a[2];
                return bid;
            case 27:
                within(a[0], 0, 4);
                return bestGiving(-1)[a[0]];
            case 28:
                within(a[0], 0, 4);
                return rent(a[0]);
            case 29: return sumOf(bestGiving(-1), -1);
            case 30:
                within(a[0], 0, 3);
                keep();
                int was = now.porter;
                now.porter = a[0];
                return was;
            case 31:
                carOf(a[0]);
                keep();
                lead(a[0], 10 + (a[1] & 1));
                return now.led.size();
            case 32: return harm(a[0], a[1], a[2]);
            case 33: return text(a[0]);
            case 34: return wrong();
            case 35:
                carOf(a[0]);
                laneOf(a[1]);
                within(a[2], 0, 23);
                return let(a[0], a[1], a[2]) ? 1 : 0;
            default:
                laneOf(a[0]);
                within(a[1], 0, 200);
                keep();
                int minute = laneOf(a[0]).minute;
                laneOf(a[0]).minute = a[1];
                return minute;
        }
    }

    private int rest(int which, int[] a) {
        switch (which) {
            case 37:
                within(a[0], 1, 30);
                keep();
                int pace = now.pace;
                now.pace = a[0];
                return pace;
            case 38: return worth(bestRescue());
            case 39:
                want(a[0] >= 0, Check.BEYOND);
                want(a[0] < bestRescue().size(), Check.NONE);
                return rescuedCars(bestRescue()).get(a[0]);
            case 40:
                carOf(a[0]);
                within(a[1], 0, 23);
                want(now.notes.size() < 30, Check.FULL);
                keep();
                now.notes.add(new int[] {a[0], a[1], a[2] & 1});
                return now.notes.size();
            case 41:
                carOf(a[0]);
                within(a[1], 0, 23);
                within(a[2], 0, now.notes.size());
                return now.hasKey(a[0], a[1], a[2]) ? 1 : 0;
            case 42: return sheet(a[0], a[1], a[2]);
            case 43: return put(a[0], a[1], a[2]);
            case 44: return copy(a);
            case 45:
                want(!past.isEmpty(), Check.NONE);
                now = past.pop();
                return past.size();
            default: return all(a[0]);
        }
    }

    private int lane(int kind, int length, int height, int load) {
        within(kind, 0, 3);
        within(length, 1, 30);
        within(height, 1, 30);
        within(load, 1, 99);
        want(now.lanes.size() < 5, Check.FULL);
        keep();
        Lane l = new Lane();
        l.kind = kind;
        l.length = length;
        l.height = height;
        l.load = load;
        now.lanes.add(l);
        return now.lanes.size() - 1;
    }

    private int as(int lane, int kind) {
        laneOf(lane);
        within(kind, 0, 3);
        int its = laneOf(lane).kind;
        want(kind == 0 || its == kind || its == 3 && kind == 1, Check.KIND);
        return lane;
    }

    private int laneIs(int lane, int what) {
        Lane l = laneOf(lane);
        within(what, 0, 7);
        int[] is = {l.kind, l.length, l.height, l.bears(), l.cars.size(), now.left(lane), l.cycles,
            l.broken ? 1 : 0};
        return is[what];
    }

    private int breaks(int lane, boolean is) {
        want(laneOf(lane).lift(), Check.KIND);
        keep();
        boolean was = laneOf(lane).broken;
        laneOf(lane).broken = is;
        return was == is ? 0 : 1;
    }

    private int car(int[] a) {
        int[] least = {1, 1, 1, 0, 0, 0};
        int[] most = {9, 30, 99, 23, 9, 99};
        for (int i = 0; i < 6; i++) {
            within(a[i], least[i], most[i]);
        }
        want(now.cars.size() < 8, Check.FULL);
        keep();
        now.cars.add(Arrays.copyOf(a, 6));
        return now.cars.size() - 1;
    }

    private int carIs(int car, int what) {
        carOf(car);
        within(what, 0, 7);
        if (what < 6) {
            return carOf(car)[what];
        }
        int l = now.whereIs(car);
        return what == 6 ? l : l < 0 ? 0 : Integer.bitCount(aheadOf(car));
    }

    private int tell(int car, int which, int v) {
        carOf(car);
        within(which, 0, 2);
        within(v, 0, new int[] {23, 9, 99}[which]);
        keep();
        int was = carOf(car)[3 + which];
        carOf(car)[3 + which] = v;
        return was;
    }

    private int park(int car, int lane) {
        carOf(car);
        laneOf(lane);
        want(now.whereIs(car) < 0, Check.TAKEN);
        want(now.suits(car, lane), Check.KIND);
        want(!laneOf(lane).shut(), Check.STUCK);
        want(now.left(lane) >= carOf(car)[0], Check.FULL);
        keep();
        now.come(car, lane);
        return laneOf(lane).cars.size();
    }

    private int shunt(int car, int lane) {
        carOf(car);
        laneOf(lane);
        want(now.whereIs(car) >= 0, Check.NONE);
        want(now.whereIs(car) != lane, Check.TAKEN);
        want(now.free(car) && !laneOf(lane).shut(), Check.STUCK);
        want(now.suits(car, lane), Check.KIND);
        want(now.left(lane) >= carOf(car)[0], Check.FULL);
        want(now.hasKey(car, now.hour, now.notes.size()), Check.MISSING);
        want(let(car, lane, now.hour), Check.BARRED);
        keep();
        now.go(car);
        now.come(car, lane);
        lead(car, now.porter);
        return ++now.shunts;
    }

    private void lead(int car, int event) {
        now.led.add(new int[] {car, event});
        if (now.led.size() > 60) {
            now.led.remove(0);
        }
    }

    private int leave(int car) {
        inLane(car);
        want(now.free(car), Check.STUCK);
        keep();
        now.go(car);
        return carOf(car)[3];
    }

    private int night() {
        keep();
        int sum = 0;
        for (Lane l : now.lanes) {
            sum += l.cycles;
            l.cycles = 0;
        }
        now.hour = 0;
        return sum;
    }

    private int hour(int v) {
        within(v, 0, 23);
        keep();
        int was = now.hour;
        now.hour = v;
        return was;
    }

    private int aheadOf(int car) {
        List<Integer> cars = laneOf(now.whereIs(car)).cars;
        int set = 0;
        for (int other : cars) {
            set |= cars.indexOf(other) > cars.indexOf(car) ? 1 << other : 0;
        }
        return set;
    }

    /** Breadth first: all rows of a length, in the order of their numbers, before longer ones. */
    private int[] fewest(int car) {
        inLane(car);
        List<int[]> rows = new ArrayList<>();
        List<State> states = new ArrayList<>();
        rows.add(new int[0]);
        states.add(now);
        for (int length = 0; length <= 3; length++) {
            List<int[]> longer = new ArrayList<>();
            List<State> later = new ArrayList<>();
            for (int i = 0; i < rows.size(); i++) {
                if (states.get(i).free(car)) {
                    return rows.get(i);
                }
                for (int s = 0; s < 64 && length < 3; s++) {
                    if (s / 8 != car && states.get(i).shuntable(s / 8, s % 8)) {
                        int[] row = Arrays.copyOf(rows.get(i), length + 1);
                        row[length] = s;
                        State then = states.get(i).twin();
                        then.go(s / 8);
                        then.come(s / 8, s % 8);
                        longer.add(row);
                        later.add(then);
                    }
                }
            }
            rows = longer;
            states = later;
        }
        throw new Finding(Check.NONE);
    }

    private int proves(int car, int s) {
        carOf(car);
        within(s, 0, 3);
        want(sheets[s] != null, Check.MISSING);
        inLane(car);
        State then = now.twin();
        for (int i = 0; i < sheets[s].length; i++) {
            int v = sheets[s][i];
            if (v < 0 || v > 63 || v / 8 == car || !then.shuntable(v / 8, v % 8)) {
                return i;
            }
            then.go(v / 8);
            then.come(v / 8, v % 8);
        }
        return then.free(car) ? -1 : sheets[s].length;
    }

    private int mornings(List<Integer> cars) {
        int sum = 0;
        for (int i = 0; i < cars.size(); i++) {
            for (int j = i + 1; j < cars.size(); j++) {
                sum += now.cars.get(cars.get(j))[3] > now.cars.get(cars.get(i))[3] ? 2 : 0;
            }
        }
        return sum;
    }

    private int morning(int lane) {
        if (lane != -1) {
            return mornings(laneOf(lane).cars);
        }
        int sum = 0;
        for (Lane l : now.lanes) {
            sum += mornings(l.cars);
        }
        return sum;
    }

    private int arrive(int car) {
        carOf(car);
        want(!now.evening.contains(car), Check.TAKEN);
        want(now.evening.size() < 7, Check.FULL);
        keep();
        now.evening.add(car);
        return now.evening.size();
    }

    private int cost(int[] plan) {
        int sum = 0;
        for (int lane = 0; lane < now.lanes.size(); lane++) {
            List<Integer> cars = new ArrayList<>();
            int length = 0;
            for (int i = 0; i < plan.length; i++) {
                if (plan[i] == lane) {
                    cars.add(now.evening.get(i));
                    length += now.cars.get(now.evening.get(i))[0];
                }
            }
            if (length > now.lanes.get(lane).length) {
                return Integer.MAX_VALUE;
            }
            sum += mornings(cars);
        }
        return sum;
    }

    /** All lanes for all cars, counted up as a number whose first digit is the first car's lane. */
    private int[] bestPlan() {
        int n = now.evening.size();
        int lanes = now.lanes.size();
        int total = 1;
        for (int i = 0; i < n; i++) {
            total *= lanes;
        }
        int[] best = null;
        for (int number = 0; number < total; number++) {
            int[] plan = new int[n];
            int digits = number;
            boolean fits = true;
            for (int i = n - 1; i >= 0 && fits; i--) {
                plan[i] = digits % lanes;
                digits /= lanes;
                fits = now.suits(now.evening.get(i), plan[i]);
            }
            if (fits && cost(plan) < (best == null ? Integer.MAX_VALUE : cost(best))) {
                best = plan;
            }
        }
        want(best != null, Check.NONE);
        return best;
    }

    /** Whether all can have their need: hours are given one by one, and given anew where that helps. */
    private boolean canAllHave(int set) {
        boolean[][] uses = new boolean[8][24];
        for (int car = 0; car < now.cars.size(); car++) {
            for (int n = 0; n < now.cars.get(car)[4] && (set >> car & 1) == 1; n++) {
                if (!giveHour(car, uses, new boolean[24])) {
                    return false;
                }
            }
        }
        return true;
    }

    private boolean giveHour(int car, boolean[][] uses, boolean[] seen) {
        for (int hour = 0; hour < now.cars.get(car)[3]; hour++) {
            if (uses[car][hour] || seen[hour]) {
                continue;
            }
            seen[hour] = true;
            int busy = 0;
            for (boolean[] u : uses) {
                busy += u[hour] ? 1 : 0;
            }
            if (busy < now.chargers) {
                uses[car][hour] = true;
                return true;
            }
            for (int other = 0; other < 8; other++) {
                if (uses[other][hour] && giveHour(other, uses, seen)) {
                    uses[other][hour] = false;
                    uses[car][hour] = true;
                    return true;
                }
            }
        }
        return false;
    }

    private int charged() {
        int best = 0;
        for (int set = 1; set < 1 << now.cars.size(); set++) {
            boolean wants = true;
            for (int car = 0; car < now.cars.size(); car++) {
                wants &= (set >> car & 1) == 0 || now.whereIs(car) >= 0 && now.cars.get(car)[4] > 0;
            }
            if (wants && Integer.bitCount(set) > Integer.bitCount(best) && canAllHave(set)) {
                best = set;
            }
        }
        return best;
    }

    private int charging(int wanted) {
        int set = charged();
        int[] need = new int[8];
        for (int car = 0; car < now.cars.size(); car++) {
            need[car] = (set >> car & 1) * now.cars.get(car)[4];
        }
        for (int hour = 23; hour >= 0; hour--) {
            List<Integer> order = new ArrayList<>();
            for (int car = 0; car < now.cars.size(); car++) {
                if (need[car] > 0 && now.cars.get(car)[3] > hour) {
                    order.add(car);
                }
            }
            order.sort((p, q) -> need[p] != need[q] ? need[q] - need[p] : p - q);
            int bitsNow = 0;
            for (int i = 0; i < Math.min(now.chargers, order.size()); i++) {
                bitsNow |= 1 << order.get(i);
                need[order.get(i)]--;
            }
            if (hour == wanted) {
                return bitsNow;
            }
        }
        return 0;
    }

    private int sumOf(int[] places, int without) {
        int sum = 0;
        for (int t = 0; t < 5; t++) {
            sum += t == without ? 0 : now.bids[t][places[t]];
        }
        return sum;
    }

    /** One left out is told any place that is left: its bid does not count. */
    private int[] bestGiving(int without) {
        int[] best = null;
        for (int number = 0; number < 3125; number++) {
            int[] places = new int[5];
            int digits = number;
            int taken = 0;
            for (int t = 4; t >= 0; t--) {
                places[t] = digits % 5;
                digits /= 5;
                taken |= 1 << places[t];
            }
            if (taken == 31 && (best == null || sumOf(places, without) > sumOf(best, without))) {
                best = places;
            }
        }
        return best;
    }

    private int rent(int tenant) {
        return sumOf(bestGiving(tenant), tenant) - sumOf(bestGiving(-1), tenant);
    }

    private int harm(int car, int porter, int sum) {
        carOf(car);
        within(porter, 0, 3);
        within(sum, 0, 9999);
        int from = -1;
        int to = -1;
        for (int i = 0; i < now.led.size(); i++) {
            int[] e = now.led.get(i);
            if (e[0] == car && e[1] == 10) {
                from = i;
                to = -1;
            } else if (e[0] == car && e[1] == 11 && to < 0 && from >= 0) {
                to = i;
            }
        }
        want(from >= 0 && to >= 0, Check.NONE);
        int[] by = new int[4];
        int together = 0;
        for (int[] e : now.led.subList(from, to)) {
            if (e[0] == car && e[1] < 4) {
                by[e[1]]++;
                together++;
            }
        }
        want(together > 0, Check.NONE);
        int[] has = new int[4];
        int left = sum;
        for (int p = 0; p < 4; p++) {
            has[p] = sum * by[p] / together;
            left -= has[p];
        }
        for (int p = 0; p < 4; p++) {
            if (by[p] > 0) {
                has[p] += left;
                break;
            }
        }
        return has[porter];
    }

    private int text(int s) {
        within(s, 0, 3);
        want(sheets[s] != null, Check.MISSING);
        want(sheets[s].length <= 16, Check.SIZE);
        for (int v : sheets[s]) {
            want(v >= 1 && v <= 6 || v >= 10 && v <= 33 || v >= 40 && v <= 44, Check.BEYOND);
        }
        keep();
        now.text.clear();
        for (int v : sheets[s]) {
            now.text.add(v);
        }
        return sheets[s].length;
    }

    private int wrong() {
        int count = 0;
        for (int i = 0; i < now.text.size(); i++) {
            int sign = now.text.get(i);
            if (sign >= 40 && count < (sign == 42 ? 1 : 2)) {
                return i;
            }
            count += sign < 40 ? 1 : sign == 42 ? 0 : -1;
            if (count > 5) {
                return i;
            }
        }
        return now.text.isEmpty() || count == 1 ? -1 : now.text.size();
    }

    private boolean let(int car, int lane, int hour) {
        if (now.text.isEmpty() || wrong() != -1) {
            return now.text.isEmpty();
        }
        int[] known = {0, hour, carOf(car)[0], carOf(car)[2], lane, laneOf(lane).kind, now.porter};
        Deque<Integer> row = new ArrayDeque<>();
        for (int sign : now.text) {
            if (sign < 40) {
                row.push(sign < 10 ? known[sign] : sign - 10);
            } else if (sign == 42) {
                row.push(row.pop() == 0 ? 1 : 0);
            } else {
                int last = row.pop();
                int first = row.pop();
                boolean[] is = {first < last, first == last, false, first * last != 0, first + last != 0};
                row.push(is[sign - 40] ? 1 : 0);
            }
        }
        return row.pop() != 0;
    }

    private List<Integer> rescuedCars(List<Integer> lanes) {
        List<Integer> cars = new ArrayList<>();
        State then = now.twin();
        for (int lane : lanes) {
            List<Integer> there = then.lanes.get(lane).cars;
            cars.add(there.remove(there.size() - 1));
        }
        return cars;
    }

    private int worth(List<Integer> lanes) {
        int sum = 0;
        for (int car : rescuedCars(lanes)) {
            sum += now.cars.get(car)[5];
        }
        return sum;
    }

    private List<Integer> bestRescue() {
        List<List<Integer>> orders = new ArrayList<>();
        orders.add(new ArrayList<>());
        for (int i = 0; i < orders.size(); i++) {
            List<Integer> order = orders.get(i);
            for (int lane = 0; lane < now.lanes.size(); lane++) {
                Lane l = now.lanes.get(lane);
                int minute = l.kind == 2 ? Math.max(0, l.minute - 60) : l.minute;
                int taken = 0;
                for (int other : order) {
                    taken += other == lane ? 1 : 0;
                }
                if (!l.broken && taken < l.cars.size() && now.pace * (order.size() + 1) <= minute) {
                    List<Integer> longer = new ArrayList<>(order);
                    longer.add(lane);
                    orders.add(longer);
                }
            }
        }
        List<Integer> best = orders.get(0);
        int most = 0;
        for (List<Integer> order : orders) {
            int worth = worth(order);
            if (worth > most || worth == most && isBefore(order, best)) {
                best = order;
                most = worth;
            }
        }
        return best;
    }

    private static boolean isBefore(List<Integer> p, List<Integer> q) {
        if (p.size() != q.size()) {
            return p.size() < q.size();
        }
        for (int i = 0; i < p.size(); i++) {
            if (!p.get(i).equals(q.get(i))) {
                return p.get(i) < q.get(i);
            }
        }
        return false;
    }

    private int sheet(int s, int b, int n) {
        within(s, 0, 3);
        want(b == 0 || b == 8 || b == 16 || b == 32, Check.BEYOND);
        want(n >= 0, Check.SIZE);
        within(n, 0, 20);
        bits[s] = b;
        sheets[s] = b == 0 ? null : new int[n];
        return b == 0 ? 0 : n;
    }

    private int put(int s, int i, int v) {
        within(s, 0, 3);
        want(sheets[s] != null, Check.MISSING);
        within(i, 0, sheets[s].length - 1);
        sheets[s][i] = bits[s] == 8 ? (byte) v : bits[s] == 16 ? (short) v : v;
        return 0;
    }

    private int copy(int[] a) {
        within(a[0], 0, 3);
        within(a[2], 0, 3);
        want(sheets[a[0]] != null && sheets[a[2]] != null, Check.MISSING);
        want(bits[a[0]] == bits[a[2]], Check.KIND);
        want(a[1] >= 0 && a[3] >= 0 && a[4] >= 0, Check.BEYOND);
        want((long) a[1] + a[4] <= sheets[a[0]].length, Check.BEYOND);
        want((long) a[3] + a[4] <= sheets[a[2]].length, Check.BEYOND);
        int[] from = sheets[a[0]].clone();
        for (int i = 0; i < a[4]; i++) {
            sheets[a[2]][a[3] + i] = from[a[1] + i];
        }
        return a[4];
    }

    private int all(int what) {
        within(what, 0, 6);
        int in = 0;
        for (Lane l : now.lanes) {
            in += l.cars.size();
        }
        int[] is = {now.lanes.size(), now.cars.size(), in, now.shunts, now.notes.size(), now.led.size(),
            findings};
        return is[what];
    }
}
