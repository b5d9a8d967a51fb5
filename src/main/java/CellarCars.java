import java.util.Arrays;

/**
 * A desk for the cars under a house. What each call answers is told in DOC.md, promise by promise.
 *
 * All that undo() may take back is in one Desk, so that an act is undone by taking the Desk as it
 * was ahead of it. The workers (Shunting, Planning, ..) hold rows that are made once and used again.
 */
public final class CellarCars {

    private static final int FINE = 0;
    private static final int BEYOND = -100001;
    private static final int MISSING = -100002;
    private static final int SIZE = -100003;
    private static final int KIND = -100004;
    private static final int FULL = -100005;
    private static final int NONE = -100006;
    private static final int TAKEN = -100007;
    private static final int STUCK = -100008;
    private static final int BARRED = -100009;

    private static final int MOST_LANES = 5;
    private static final int MOST_CARS = 8;
    private static final int MOST_ARRIVING = 7;
    private static final int MOST_SHUNTS = 3;
    private static final int MOST_CHARGERS = 3;
    private static final int MOST_BID = 999;
    private static final int MOST_SUM = 9999;
    private static final int MOST_SIGNS = 16;
    private static final int MOST_MINUTE = 200;
    private static final int MOST_PACE = 30;
    private static final int MOST_NOTES = 30;
    private static final int MOST_LED = 60;
    private static final int MOST_NUMBERS = 20;
    private static final int MOST_PAST = 16;
    private static final int HOURS = 24;
    private static final int TENANTS = 5;
    private static final int PORTERS = 4;
    private static final int SHEETS = 4;

    /** No car, no lane, no place of a fault: an answer that is no finding. */
    private static final int NO = -1;

    private final Desk desk = new Desk();
    private final Desk[] past = new Desk[MOST_PAST];
    private final Sheets sheets = new Sheets();
    private final Shunting shunting = new Shunting();
    private final Planning planning = new Planning();
    private final Charge charge = new Charge();
    private final Renting renting = new Renting();
    private final Rules rules = new Rules();
    private final Rescuing rescuing = new Rescuing();
    private int pastNext = 0;
    private int pastCount = 0;
    private int findings = 0;

    public CellarCars() {
        for (int i = 0; i < MOST_PAST; i++) {
            past[i] = new Desk();
        }
    }

    // ---- lanes, cars

    public int lane(int kind, int length, int height, int load) {
        if (!Garage.isKind(kind) || !isWithin(length, 1, 30) || !isWithin(height, 1, 30)
                || !isWithin(load, 1, 99)) {
            return refuse(BEYOND);
        }
        if (desk.garage.lanes >= MOST_LANES) {
            return refuse(FULL);
        }
        keepForUndo();
        return desk.garage.addLane(kind, length, height, load);
    }

    public int as(int lane, int kind) {
        if (!desk.garage.hasLane(lane) || !Garage.isKind(kind)) {
            return refuse(BEYOND);
        }
        return desk.garage.isOfKind(lane, kind) ? lane : refuse(KIND);
    }

    public int laneIs(int lane, int what) {
        Garage garage = desk.garage;
        if (!garage.hasLane(lane)) {
            return refuse(BEYOND);
        }
        switch (what) {
            case 0: return garage.laneKind[lane];
            case 1: return garage.laneLength[lane];
            case 2: return garage.laneHeight[lane];
            case 3: return garage.bears(lane);
            case 4: return garage.standing[lane];
            case 5: return garage.lengthLeft(lane);
            case 6: return garage.cycles[lane];
            case 7: return garage.broken[lane];
            default: return refuse(BEYOND);
        }
    }

    public int breaks(int lane, boolean is) {
        Garage garage = desk.garage;
        if (!garage.hasLane(lane)) {
            return refuse(BEYOND);
        }
        if (!garage.isOfKind(lane, Garage.LIFT)) {
            return refuse(KIND);
        }
        keepForUndo();
        int was = garage.broken[lane];
        garage.broken[lane] = is ? 1 : 0;
        return garage.broken[lane] == was ? 0 : 1;
    }

    public int car(int length, int height, int weight, int hour, int need, int worth) {
        if (!Garage.isFact(Garage.LENGTH, length) || !Garage.isFact(Garage.HEIGHT, height)
                || !Garage.isFact(Garage.WEIGHT, weight) || !Garage.isFact(Garage.HOUR, hour)
                || !Garage.isFact(Garage.NEED, need) || !Garage.isFact(Garage.WORTH, worth)) {
            return refuse(BEYOND);
        }
        if (desk.garage.cars >= MOST_CARS) {
            return refuse(FULL);
        }
        keepForUndo();
        return desk.garage.addCar(length, height, weight, hour, need, worth);
    }

    public int carIs(int car, int what) {
        Garage garage = desk.garage;
        if (!garage.hasCar(car) || !isWithin(what, 0, 7)) {
            return refuse(BEYOND);
        }
        if (what < Garage.FACTS) {
            return garage.fact(car, what);
        }
        return what == 6 ? garage.where[car] : Integer.bitCount(garage.carsAhead(car));
    }

    public int tell(int car, int which, int v) {
        if (!desk.garage.hasCar(car) || !isWithin(which, 0, 2)
                || !Garage.isFact(Garage.HOUR + which, v)) {
            return refuse(BEYOND);
        }
        keepForUndo();
        return desk.garage.changeFact(car, Garage.HOUR + which, v);
    }

    public int at(int lane, int i) {
        Garage garage = desk.garage;
        if (!garage.hasLane(lane)) {
            return refuse(BEYOND);
        }
        if (i < 0 || i >= garage.standing[lane]) {
            return refuse(NONE);
        }
        return garage.carAt(lane, i);
    }

    public int fits(int car, int lane) {
        if (!desk.garage.hasCar(car) || !desk.garage.hasLane(lane)) {
            return refuse(BEYOND);
        }
        return desk.garage.suits(car, lane) ? 1 : 0;
    }

    // ---- coming, shunts, going

    public int park(int car, int lane) {
        Garage garage = desk.garage;
        if (!garage.hasCar(car) || !garage.hasLane(lane)) {
            return refuse(BEYOND);
        }
        int finding = garage.parkFinding(car, lane);
        if (finding != FINE) {
            return refuse(finding);
        }
        keepForUndo();
        garage.bring(car, lane);
        return garage.standing[lane];
    }

    public int shunt(int car, int lane) {
        Garage garage = desk.garage;
        if (!garage.hasCar(car) || !garage.hasLane(lane)) {
            return refuse(BEYOND);
        }
        int finding = garage.shuntFinding(car, lane);
        if (finding != FINE) {
            return refuse(finding);
        }
        if (!desk.keys.isThere(car, desk.hour, desk.keys.count)) {
            return refuse(MISSING);
        }
        if (!isLet(car, lane, desk.hour)) {
            return refuse(BARRED);
        }
        keepForUndo();
        garage.move(car, lane);
        desk.led.add(car, desk.porter);
        desk.shunts++;
        return desk.shunts;
    }

    public int leave(int car) {
        Garage garage = desk.garage;
        int finding = inLaneFinding(car);
        if (finding != FINE) {
            return refuse(finding);
        }
        if (!garage.isFree(car)) {
            return refuse(STUCK);
        }
        keepForUndo();
        garage.take(car);
        return garage.fact(car, Garage.HOUR);
    }

    public int night() {
        keepForUndo();
        desk.hour = 0;
        return desk.garage.forgetCycles();
    }

    public int hour(int v) {
        if (!isHour(v)) {
            return refuse(BEYOND);
        }
        keepForUndo();
        int was = desk.hour;
        desk.hour = v;
        return was;
    }

    public int ahead(int car) {
        int finding = inLaneFinding(car);
        return finding == FINE ? desk.garage.carsAhead(car) : refuse(finding);
    }

    public int fewest(int car) {
        int finding = inLaneFinding(car);
        if (finding != FINE) {
            return refuse(finding);
        }
        int shunts = shunting.shortest(desk.garage, car, keysNow());
        return shunts == NO ? refuse(NONE) : shunts;
    }

    public int step(int car, int i) {
        int finding = i < 0 ? BEYOND : inLaneFinding(car);
        if (finding != FINE) {
            return refuse(finding);
        }
        int shunts = shunting.shortest(desk.garage, car, keysNow());
        return i < shunts ? shunting.row[i] : refuse(NONE);
    }

    public int proves(int car, int s) {
        if (!desk.garage.hasCar(car) || !sheets.isSheet(s)) {
            return refuse(BEYOND);
        }
        if (sheets.isMissing(s)) {
            return refuse(MISSING);
        }
        if (desk.garage.where[car] == NO) {
            return refuse(NONE);
        }
        shunting.begin(desk.garage, keysNow());
        for (int i = 0; i < sheets.size[s]; i++) {
            if (!shunting.carryOut(car, sheets.number(s, i))) {
                return i;
            }
        }
        return shunting.frees(car) ? NO : sheets.size[s];
    }

    // ---- mornings, evenings

    public int morning(int lane) {
        if (lane != NO) {
            return desk.garage.hasLane(lane) ? desk.garage.morningOf(lane) : refuse(BEYOND);
        }
        int sum = 0;
        for (int each = 0; each < desk.garage.lanes; each++) {
            sum += desk.garage.morningOf(each);
        }
        return sum;
    }

    public int arrive(int car) {
        if (!desk.garage.hasCar(car)) {
            return refuse(BEYOND);
        }
        if (desk.placeInEvening(car) != NO) {
            return refuse(TAKEN);
        }
        if (desk.arriving >= MOST_ARRIVING) {
            return refuse(FULL);
        }
        keepForUndo();
        desk.evening[desk.arriving] = car;
        desk.arriving++;
        return desk.arriving;
    }

    public int clear() {
        keepForUndo();
        int had = desk.arriving;
        desk.arriving = 0;
        return had;
    }

    public int plan() {
        int mornings = planning.leastMornings(desk);
        return mornings == NO ? refuse(NONE) : mornings;
    }

    public int planned(int car) {
        if (!desk.garage.hasCar(car)) {
            return refuse(BEYOND);
        }
        int place = desk.placeInEvening(car);
        if (place == NO || planning.leastMornings(desk) == NO) {
            return refuse(NONE);
        }
        return planning.best[place];
    }

    // ---- charge

    public int chargers(int n) {
        if (!isWithin(n, 0, MOST_CHARGERS)) {
            return refuse(BEYOND);
        }
        keepForUndo();
        int were = desk.chargers;
        desk.chargers = n;
        return were;
    }

    public int charged() {
        return charge.mostCars(desk.garage, desk.chargers);
    }

    public int charging(int hour) {
        if (!isHour(hour)) {
            return refuse(BEYOND);
        }
        int set = charge.mostCars(desk.garage, desk.chargers);
        charge.shareHours(desk.garage, desk.chargers, set);
        return charge.inHour[hour];
    }

    // ---- rents

    public int bid(int tenant, int place, int v) {
        if (!isTenant(tenant) || !isTenant(place) || !isWithin(v, 0, MOST_BID)) {
            return refuse(BEYOND);
        }
        keepForUndo();
        int was = desk.bids[tenant * TENANTS + place];
        desk.bids[tenant * TENANTS + place] = v;
        return was;
    }

    public int given(int tenant) {
        if (!isTenant(tenant)) {
            return refuse(BEYOND);
        }
        renting.mostBids(desk.bids, NO);
        return renting.best[tenant];
    }

    public int rent(int tenant) {
        return isTenant(tenant) ? renting.rentOf(desk.bids, tenant) : refuse(BEYOND);
    }

    public int giving() {
        return renting.mostBids(desk.bids, NO);
    }

    // ---- porters, looks, rules

    public int porter(int p) {
        if (!isPorter(p)) {
            return refuse(BEYOND);
        }
        keepForUndo();
        int was = desk.porter;
        desk.porter = p;
        return was;
    }

    public int look(int car, boolean harmed) {
        if (!desk.garage.hasCar(car)) {
            return refuse(BEYOND);
        }
        keepForUndo();
        desk.led.add(car, harmed ? Led.HARMED : Led.UNHARMED);
        return desk.led.count;
    }

    public int harm(int car, int porter, int sum) {
        if (!desk.garage.hasCar(car) || !isPorter(porter) || !isWithin(sum, 0, MOST_SUM)) {
            return refuse(BEYOND);
        }
        int share = desk.led.shareOf(car, porter, sum);
        return share == NO ? refuse(NONE) : share;
    }

    public int text(int s) {
        if (!sheets.isSheet(s)) {
            return refuse(BEYOND);
        }
        if (sheets.isMissing(s)) {
            return refuse(MISSING);
        }
        int count = sheets.size[s];
        if (count > MOST_SIGNS) {
            return refuse(SIZE);
        }
        for (int i = 0; i < count; i++) {
            if (!Rules.isSign(sheets.number(s, i))) {
                return refuse(BEYOND);
            }
        }
        keepForUndo();
        for (int i = 0; i < count; i++) {
            desk.text[i] = sheets.number(s, i);
        }
        desk.signs = count;
        return count;
    }

    public int wrong() {
        return rules.firstFault(desk.text, desk.signs);
    }

    public int lets(int car, int lane, int hour) {
        if (!desk.garage.hasCar(car) || !desk.garage.hasLane(lane) || !isHour(hour)) {
            return refuse(BEYOND);
        }
        return isLet(car, lane, hour) ? 1 : 0;
    }

    // ---- flood, keys

    public int flood(int lane, int v) {
        if (!desk.garage.hasLane(lane) || !isWithin(v, 0, MOST_MINUTE)) {
            return refuse(BEYOND);
        }
        keepForUndo();
        int was = desk.garage.minute[lane];
        desk.garage.minute[lane] = v;
        return was;
    }

    public int pace(int v) {
        if (!isWithin(v, 1, MOST_PACE)) {
            return refuse(BEYOND);
        }
        keepForUndo();
        int was = desk.pace;
        desk.pace = v;
        return was;
    }

    public int rescue() {
        return rescuing.mostWorth(desk.garage, desk.pace);
    }

    public int rescued(int i) {
        if (i < 0) {
            return refuse(BEYOND);
        }
        rescuing.mostWorth(desk.garage, desk.pace);
        return i < rescuing.bestCount ? rescuing.best[i] : refuse(NONE);
    }

    public int note(int car, int hour, boolean has) {
        if (!desk.garage.hasCar(car) || !isHour(hour)) {
            return refuse(BEYOND);
        }
        if (desk.keys.count >= MOST_NOTES) {
            return refuse(FULL);
        }
        keepForUndo();
        desk.keys.add(car, hour, has);
        return desk.keys.count;
    }

    public int key(int car, int hour, int notes) {
        if (!desk.garage.hasCar(car) || !isHour(hour) || !isWithin(notes, 0, desk.keys.count)) {
            return refuse(BEYOND);
        }
        return desk.keys.isThere(car, hour, notes) ? 1 : 0;
    }

    // ---- sheets, the whole

    public int sheet(int s, int bits, int n) {
        if (!sheets.isSheet(s) || bits != 0 && bits != 8 && bits != 16 && bits != 32) {
            return refuse(BEYOND);
        }
        if (n < 0) {
            return refuse(SIZE);
        }
        if (n > MOST_NUMBERS) {
            return refuse(BEYOND);
        }
        sheets.begin(s, bits, bits == 0 ? 0 : n);
        return sheets.size[s];
    }

    public int put(int s, int i, int v) {
        if (!sheets.isSheet(s)) {
            return refuse(BEYOND);
        }
        if (sheets.isMissing(s)) {
            return refuse(MISSING);
        }
        if (i < 0 || i >= sheets.size[s]) {
            return refuse(BEYOND);
        }
        sheets.write(s, i, v);
        return 0;
    }

    public int copy(int s, int from, int t, int to, int n) {
        if (!sheets.isSheet(s) || !sheets.isSheet(t)) {
            return refuse(BEYOND);
        }
        if (sheets.isMissing(s) || sheets.isMissing(t)) {
            return refuse(MISSING);
        }
        if (sheets.bits[s] != sheets.bits[t]) {
            return refuse(KIND);
        }
        if (!sheets.hasSpan(s, from, n) || !sheets.hasSpan(t, to, n)) {
            return refuse(BEYOND);
        }
        sheets.carryOver(s, from, t, to, n);
        return n;
    }

    public int undo() {
        if (pastCount <= 0) {
            return refuse(NONE);
        }
        pastNext = (pastNext + MOST_PAST - 1) % MOST_PAST;
        pastCount--;
        Desk was = past[pastNext];
        if (was != null) {
            desk.become(was);
        }
        return pastCount;
    }

    public int all(int what) {
        switch (what) {
            case 0: return desk.garage.lanes;
            case 1: return desk.garage.cars;
            case 2: return desk.garage.carsInLanes();
            case 3: return desk.shunts;
            case 4: return desk.keys.count;
            case 5: return desk.led.count;
            case 6: return findings;
            default: return refuse(BEYOND);
        }
    }

    // ---- what several calls share

    private int refuse(int finding) {
        findings++;
        return finding;
    }

    /** Every act calls this once, when it is sure that it answers no finding. */
    private void keepForUndo() {
        Desk slot = past[pastNext];
        if (slot != null) {
            slot.become(desk);
        }
        pastNext = (pastNext + 1) % MOST_PAST;
        pastCount = Math.min(pastCount + 1, MOST_PAST);
    }

    private int inLaneFinding(int car) {
        if (!desk.garage.hasCar(car)) {
            return BEYOND;
        }
        return desk.garage.where[car] == NO ? NONE : FINE;
    }

    private int keysNow() {
        return desk.keys.carsWithKey(desk.garage.cars, desk.hour);
    }

    private boolean isLet(int car, int lane, int hour) {
        Garage garage = desk.garage;
        rules.suppose(hour, garage.fact(car, Garage.LENGTH), garage.fact(car, Garage.WEIGHT),
                lane, garage.laneKind[lane], desk.porter);
        return rules.let(desk.text, desk.signs);
    }

    private static boolean isWithin(int v, int least, int most) {
        return v >= least && v <= most;
    }

    private static boolean isHour(int v) {
        return isWithin(v, 0, HOURS - 1);
    }

    private static boolean isTenant(int v) {
        return isWithin(v, 0, TENANTS - 1);
    }

    private static boolean isPorter(int v) {
        return isWithin(v, 0, PORTERS - 1);
    }

    /** All that an act may change and undo() brings back. */
    private static final class Desk {
        final Garage garage = new Garage();
        final Led led = new Led();
        final Keys keys = new Keys();
        final int[] bids = new int[TENANTS * TENANTS];
        final int[] text = new int[MOST_SIGNS];
        final int[] evening = new int[MOST_ARRIVING];
        int signs = 0;
        int arriving = 0;
        int hour = 0;
        int chargers = 1;
        int porter = 0;
        int pace = 10;
        int shunts = 0;

        void become(Desk other) {
            garage.become(other.garage);
            led.become(other.led);
            keys.become(other.keys);
            System.arraycopy(other.bids, 0, bids, 0, bids.length);
            System.arraycopy(other.text, 0, text, 0, text.length);
            System.arraycopy(other.evening, 0, evening, 0, evening.length);
            signs = other.signs;
            arriving = other.arriving;
            hour = other.hour;
            chargers = other.chargers;
            porter = other.porter;
            pace = other.pace;
            shunts = other.shunts;
        }

        int placeInEvening(int car) {
            for (int i = 0; i < arriving; i++) {
                if (evening[i] == car) {
                    return i;
                }
            }
            return NO;
        }
    }

    /** The lanes, the cars, and who stands where. Callers have looked at lane and car numbers. */
    private static final class Garage {
        static final int ROW = 0;
        static final int LIFT = 1;
        static final int LOW = 2;
        static final int TOWER = 3;
        static final int LENGTH = 0;
        static final int HEIGHT = 1;
        static final int WEIGHT = 2;
        static final int HOUR = 3;
        static final int NEED = 4;
        static final int WORTH = 5;
        static final int FACTS = 6;
        private static final int[] KIND_ABOVE = {NO, ROW, ROW, LIFT};
        private static final int[] LEAST_FACT = {1, 1, 1, 0, 0, 0};
        private static final int[] MOST_FACT = {9, 30, 99, 23, 9, 99};
        private static final int MOST_CYCLES = 12;
        private static final int FIRST_MINUTE = 100;
        private static final int LOW_MINUTES_LESS = 60;

        int lanes = 0;
        int cars = 0;
        final int[] laneKind = new int[MOST_LANES];
        final int[] laneLength = new int[MOST_LANES];
        final int[] laneHeight = new int[MOST_LANES];
        final int[] laneLoad = new int[MOST_LANES];
        final int[] minute = new int[MOST_LANES];
        final int[] cycles = new int[MOST_LANES];
        final int[] broken = new int[MOST_LANES];
        final int[] standing = new int[MOST_LANES];
        final int[] places = new int[MOST_LANES * MOST_CARS];
        final int[] facts = new int[MOST_CARS * FACTS];
        final int[] where = new int[MOST_CARS];

        void become(Garage other) {
            lanes = other.lanes;
            cars = other.cars;
            System.arraycopy(other.laneKind, 0, laneKind, 0, laneKind.length);
            System.arraycopy(other.laneLength, 0, laneLength, 0, laneLength.length);
            System.arraycopy(other.laneHeight, 0, laneHeight, 0, laneHeight.length);
            System.arraycopy(other.laneLoad, 0, laneLoad, 0, laneLoad.length);
            System.arraycopy(other.minute, 0, minute, 0, minute.length);
            System.arraycopy(other.cycles, 0, cycles, 0, cycles.length);
            System.arraycopy(other.broken, 0, broken, 0, broken.length);
            System.arraycopy(other.standing, 0, standing, 0, standing.length);
            System.arraycopy(other.places, 0, places, 0, places.length);
            System.arraycopy(other.facts, 0, facts, 0, facts.length);
            System.arraycopy(other.where, 0, where, 0, where.length);
        }

        static boolean isKind(int v) {
            return v >= 0 && v < KIND_ABOVE.length;
        }

        static boolean isFact(int which, int v) {
            return which >= 0 && which < FACTS && v >= LEAST_FACT[which] && v <= MOST_FACT[which];
        }

        boolean hasLane(int lane) {
            return lane >= 0 && lane < lanes;
        }

        boolean hasCar(int car) {
            return car >= 0 && car < cars;
        }

        int addLane(int kind, int length, int height, int load) {
            int lane = lanes;
            laneKind[lane] = kind;
            laneLength[lane] = length;
            laneHeight[lane] = height;
            laneLoad[lane] = load;
            minute[lane] = FIRST_MINUTE;
            cycles[lane] = 0;
            broken[lane] = 0;
            standing[lane] = 0;
            lanes++;
            return lane;
        }

        int addCar(int length, int height, int weight, int hour, int need, int worth) {
            int car = cars;
            int first = car * FACTS;
            facts[first + LENGTH] = length;
            facts[first + HEIGHT] = height;
            facts[first + WEIGHT] = weight;
            facts[first + HOUR] = hour;
            facts[first + NEED] = need;
            facts[first + WORTH] = worth;
            where[car] = NO;
            cars++;
            return car;
        }

        int fact(int car, int which) {
            return facts[car * FACTS + which];
        }

        int changeFact(int car, int which, int v) {
            int was = facts[car * FACTS + which];
            facts[car * FACTS + which] = v;
            return was;
        }

        boolean isOfKind(int lane, int wanted) {
            int its = laneKind[lane];
            for (int up = 0; up < KIND_ABOVE.length && its != NO; up++) {
                if (its == wanted) {
                    return true;
                }
                its = KIND_ABOVE[its];
            }
            return false;
        }

        /** What a car that comes to a lane or leaves it adds to the lane's cycles. */
        private int cycleOf(int lane) {
            return laneKind[lane] == LIFT || laneKind[lane] == TOWER ? 1 : 0;
        }

        int bears(int lane) {
            return laneKind[lane] == TOWER ? laneLoad[lane] / 2 : laneLoad[lane];
        }

        boolean suits(int car, int lane) {
            return fact(car, HEIGHT) <= laneHeight[lane] && fact(car, WEIGHT) <= bears(lane);
        }

        int carAt(int lane, int place) {
            return places[lane * MOST_CARS + place];
        }

        int lengthLeft(int lane) {
            int left = laneLength[lane];
            for (int i = 0; i < standing[lane]; i++) {
                left -= fact(carAt(lane, i), LENGTH);
            }
            return left;
        }

        /** Nothing comes to a shut lane or leaves it. */
        boolean isShut(int lane) {
            return broken[lane] != 0 || cycles[lane] >= MOST_CYCLES;
        }

        boolean isFree(int car) {
            int lane = where[car];
            if (lane == NO || standing[lane] <= 0) {
                return false;
            }
            return carAt(lane, standing[lane] - 1) == car && !isShut(lane);
        }

        int parkFinding(int car, int lane) {
            if (where[car] != NO) {
                return TAKEN;
            }
            if (!suits(car, lane)) {
                return KIND;
            }
            if (isShut(lane)) {
                return STUCK;
            }
            return fact(car, LENGTH) > lengthLeft(lane) ? FULL : FINE;
        }

        int shuntFinding(int car, int lane) {
            if (where[car] == NO) {
                return NONE;
            }
            if (where[car] == lane) {
                return TAKEN;
            }
            if (!isFree(car) || isShut(lane)) {
                return STUCK;
            }
            if (!suits(car, lane)) {
                return KIND;
            }
            return fact(car, LENGTH) > lengthLeft(lane) ? FULL : FINE;
        }

        void bring(int car, int lane) {
            if (standing[lane] >= MOST_CARS) {
                return;
            }
            places[lane * MOST_CARS + standing[lane]] = car;
            standing[lane]++;
            where[car] = lane;
            cycles[lane] += cycleOf(lane);
        }

        void take(int car) {
            int lane = where[car];
            standing[lane]--;
            where[car] = NO;
            cycles[lane] += cycleOf(lane);
        }

        void move(int car, int lane) {
            take(car);
            bring(car, lane);
        }

        /** A search takes back its own shunt: neither that one's cycles nor this one's count. */
        void moveBack(int car, int from) {
            int lane = where[car];
            move(car, from);
            cycles[lane] -= 2 * cycleOf(lane);
            cycles[from] -= 2 * cycleOf(from);
        }

        int forgetCycles() {
            int sum = 0;
            for (int lane = 0; lane < lanes; lane++) {
                sum += cycles[lane];
                cycles[lane] = 0;
            }
            return sum;
        }

        int carsAhead(int car) {
            int bits = 0;
            int lane = where[car];
            if (lane == NO) {
                return bits;
            }
            for (int i = standing[lane] - 1; i >= 0 && carAt(lane, i) != car; i--) {
                bits |= 1 << carAt(lane, i);
            }
            return bits;
        }

        int carsInLanes() {
            int sum = 0;
            for (int lane = 0; lane < lanes; lane++) {
                sum += standing[lane];
            }
            return sum;
        }

        int morningOf(int lane) {
            int sum = 0;
            for (int front = 1; front < standing[lane]; front++) {
                int hour = fact(carAt(lane, front), HOUR);
                for (int behind = 0; behind < front; behind++) {
                    sum += hour > fact(carAt(lane, behind), HOUR) ? 2 : 0;
                }
            }
            return sum;
        }

        int floodMinute(int lane) {
            return laneKind[lane] == LOW ? Math.max(0, minute[lane] - LOW_MINUTES_LESS) : minute[lane];
        }
    }

    /** The latest shunts and looks, the oldest first: a shunt by its porter, a look by what was seen. */
    private static final class Led {
        static final int UNHARMED = PORTERS;
        static final int HARMED = PORTERS + 1;

        int count = 0;
        final int[] cars = new int[MOST_LED];
        final int[] events = new int[MOST_LED];

        void become(Led other) {
            count = other.count;
            System.arraycopy(other.cars, 0, cars, 0, cars.length);
            System.arraycopy(other.events, 0, events, 0, events.length);
        }

        void add(int car, int event) {
            if (count >= MOST_LED) {
                count = MOST_LED - 1;
                System.arraycopy(cars, 1, cars, 0, count);
                System.arraycopy(events, 1, events, 0, count);
            }
            cars[count] = car;
            events[count] = event;
            count++;
        }

        /** What a porter has of a sum for harm of a car, or NO if it cannot be parted. */
        int shareOf(int car, int porter, int sum) {
            int from = latestUnharmed(car);
            int to = from == NO ? NO : firstHarmed(car, from);
            if (to == NO) {
                return NO;
            }
            int shunts = 0;
            for (int each = 0; each < PORTERS; each++) {
                shunts += shuntsBy(each, car, from, to);
            }
            if (shunts <= 0) {
                return NO;
            }
            int left = sum;
            int first = NO;
            for (int each = PORTERS - 1; each >= 0; each--) {
                int own = shuntsBy(each, car, from, to);
                left -= sum * own / shunts;
                first = own > 0 ? each : first;
            }
            int share = sum * shuntsBy(porter, car, from, to) / shunts;
            return porter == first ? share + left : share;
        }

        private int latestUnharmed(int car) {
            for (int i = count - 1; i >= 0; i--) {
                if (cars[i] == car && events[i] == UNHARMED) {
                    return i;
                }
            }
            return NO;
        }

        private int firstHarmed(int car, int from) {
            for (int i = from + 1; i < count; i++) {
                if (cars[i] == car && events[i] == HARMED) {
                    return i;
                }
            }
            return NO;
        }

        private int shuntsBy(int porter, int car, int from, int to) {
            int sum = 0;
            for (int i = from + 1; i < to; i++) {
                sum += cars[i] == car && events[i] == porter ? 1 : 0;
            }
            return sum;
        }
    }

    /** The notes about keys, in the order in which they were told. */
    private static final class Keys {
        int count = 0;
        final int[] cars = new int[MOST_NOTES];
        final int[] hours = new int[MOST_NOTES];
        final int[] has = new int[MOST_NOTES];

        void become(Keys other) {
            count = other.count;
            System.arraycopy(other.cars, 0, cars, 0, cars.length);
            System.arraycopy(other.hours, 0, hours, 0, hours.length);
            System.arraycopy(other.has, 0, has, 0, has.length);
        }

        void add(int car, int hour, boolean there) {
            cars[count] = car;
            hours[count] = hour;
            has[count] = there ? 1 : 0;
            count++;
        }

        boolean isThere(int car, int hour, int notes) {
            int latest = NO;
            boolean there = false;
            for (int i = 0; i < notes && i < count; i++) {
                if (cars[i] == car && hours[i] <= hour && hours[i] >= latest) {
                    latest = hours[i];
                    there = has[i] != 0;
                }
            }
            return there;
        }

        int carsWithKey(int carCount, int hour) {
            int bits = 0;
            for (int car = 0; car < carCount; car++) {
                bits |= isThere(car, hour, count) ? 1 << car : 0;
            }
            return bits;
        }
    }

    /** Tries shunts on a garage of its own, so that the real one stays as it is. */
    private static final class Shunting {
        private static final int LANES_TOLD = 8;

        final int[] row = new int[MOST_SHUNTS];
        private final Garage tried = new Garage();
        private int keys = 0;

        void begin(Garage garage, int keysNow) {
            tried.become(garage);
            keys = keysNow;
        }

        boolean frees(int car) {
            return tried.isFree(car);
        }

        /** How many shunts free a car at least (they stand in row then), or NO. */
        int shortest(Garage garage, int car, int keysNow) {
            begin(garage, keysNow);
            for (int count = 0; count <= MOST_SHUNTS; count++) {
                if (search(car, 0, count)) {
                    return count;
                }
            }
            return NO;
        }

        /** The tries go up by their numbers, so the first row that is found is the one that is due. */
        private boolean search(int car, int done, int count) {
            if (done >= count) {
                return frees(car);
            }
            // A shunt takes away one car at most, so more cars ahead than shunts left is too many.
            if (Integer.bitCount(tried.carsAhead(car)) > count - done) {
                return false;
            }
            for (int other = 0; other < tried.cars; other++) {
                int from = tried.where[other];
                for (int lane = 0; lane < tried.lanes; lane++) {
                    int shunt = other * LANES_TOLD + lane;
                    if (!carryOut(car, shunt)) {
                        continue;
                    }
                    row[done] = shunt;
                    boolean found = search(car, done + 1, count);
                    tried.moveBack(other, from);
                    if (found) {
                        return true;
                    }
                }
            }
            return false;
        }

        /** Does a shunt that is told as a number, for the sake of a car; false if it can't be. */
        boolean carryOut(int car, int shunt) {
            if (shunt < 0) {
                return false;
            }
            int other = shunt / LANES_TOLD;
            int lane = shunt % LANES_TOLD;
            if (!tried.hasCar(other) || !tried.hasLane(lane) || other == car
                    || (keys >> other & 1) == 0 || tried.shuntFinding(other, lane) != FINE) {
                return false;
            }
            tried.move(other, lane);
            return true;
        }
    }

    /** Finds a lane for each car of the evening. */
    private static final class Planning {
        final int[] best = new int[MOST_ARRIVING];
        private final int[] chosen = new int[MOST_ARRIVING];
        private final int[] filled = new int[MOST_LANES];
        private int least = NO;

        /** Mornings of the plan (its lanes stand in best then), or NO if there is none. */
        int leastMornings(Desk desk) {
            least = NO;
            Arrays.fill(filled, 0);
            assign(desk, 0, 0);
            return least;
        }

        private void assign(Desk desk, int place, int mornings) {
            if (least != NO && mornings >= least) {
                return;
            }
            if (place >= desk.arriving) {
                least = mornings;
                System.arraycopy(chosen, 0, best, 0, best.length);
                return;
            }
            Garage garage = desk.garage;
            int car = desk.evening[place];
            int length = garage.fact(car, Garage.LENGTH);
            for (int lane = 0; lane < garage.lanes; lane++) {
                if (filled[lane] + length > garage.laneLength[lane] || !garage.suits(car, lane)) {
                    continue;
                }
                chosen[place] = lane;
                filled[lane] += length;
                assign(desk, place + 1, mornings + added(desk, place));
                filled[lane] -= length;
            }
        }

        /** Mornings that the car at a place of the evening adds to those that came to its lane before. */
        private int added(Desk desk, int place) {
            int hour = desk.garage.fact(desk.evening[place], Garage.HOUR);
            int sum = 0;
            for (int i = 0; i < place; i++) {
                boolean waits = chosen[i] == chosen[place]
                        && hour > desk.garage.fact(desk.evening[i], Garage.HOUR);
                sum += waits ? 2 : 0;
            }
            return sum;
        }
    }

    /** Shares the chargers' hours among cars. */
    private static final class Charge {
        final int[] inHour = new int[HOURS];
        private final int[] still = new int[MOST_CARS];

        int mostCars(Garage garage, int chargers) {
            int waiting = waitingCars(garage);
            int best = 0;
            for (int set = 1; set <= waiting; set++) {
                if ((set & ~waiting) == 0 && Integer.bitCount(set) > Integer.bitCount(best)
                        && shareHours(garage, chargers, set)) {
                    best = set;
                }
            }
            return best;
        }

        private int waitingCars(Garage garage) {
            int bits = 0;
            for (int car = 0; car < garage.cars; car++) {
                boolean waits = garage.where[car] != NO && garage.fact(car, Garage.NEED) > 0;
                bits |= waits ? 1 << car : 0;
            }
            return bits;
        }

        /**
         * Fills inHour; true if all of the set have their need. Who can be charged now can be in
         * all earlier hours, so to serve those that need most first never spoils what could be done:
         * the same hours that the document asks for also show whether a set can have its need.
         */
        boolean shareHours(Garage garage, int chargers, int set) {
            int open = 0;
            for (int car = 0; car < garage.cars; car++) {
                still[car] = (set >> car & 1) == 0 ? 0 : garage.fact(car, Garage.NEED);
                open += still[car];
            }
            for (int hour = HOURS - 1; hour >= 0; hour--) {
                inHour[hour] = 0;
                for (int n = 0; n < chargers; n++) {
                    int car = neediest(garage, hour);
                    if (car != NO) {
                        inHour[hour] |= 1 << car;
                    }
                }
                open -= chargeThose(garage, inHour[hour]);
            }
            return open == 0;
        }

        private int neediest(Garage garage, int hour) {
            int best = NO;
            int most = 0;
            for (int car = 0; car < garage.cars; car++) {
                if (still[car] > most && (inHour[hour] >> car & 1) == 0
                        && garage.fact(car, Garage.HOUR) > hour) {
                    best = car;
                    most = still[car];
                }
            }
            return best;
        }

        private int chargeThose(Garage garage, int set) {
            for (int car = 0; car < garage.cars; car++) {
                still[car] -= set >> car & 1;
            }
            return Integer.bitCount(set);
        }
    }

    /** Gives each tenant a place, so that the bids together are the most. */
    private static final class Renting {
        final int[] best = new int[TENANTS];
        private final int[] chosen = new int[TENANTS];
        private int most = NO;

        /** Bids of the giving (its places stand in best then); a tenant may be left out. */
        int mostBids(int[] bids, int without) {
            most = NO;
            give(bids, without, 0, 0, 0);
            return most;
        }

        private void give(int[] bids, int without, int tenant, int taken, int sum) {
            if (tenant >= TENANTS) {
                if (sum > most) {
                    most = sum;
                    System.arraycopy(chosen, 0, best, 0, best.length);
                }
                return;
            }
            if (tenant == without) {
                give(bids, without, tenant + 1, taken, sum);
                return;
            }
            for (int place = 0; place < TENANTS; place++) {
                if ((taken >> place & 1) == 0) {
                    chosen[tenant] = place;
                    give(bids, without, tenant + 1, taken | 1 << place,
                            sum + bids[tenant * TENANTS + place]);
                }
            }
        }

        int rentOf(int[] bids, int tenant) {
            int together = mostBids(bids, NO);
            int othersHave = together - bids[tenant * TENANTS + best[tenant]];
            return mostBids(bids, tenant) - othersHave;
        }
    }

    /** Works out a text by a row of numbers. */
    private static final class Rules {
        private static final int MOST_ROW = 5;
        private static final int KNOWN = 6;
        private static final int FIRST_NUMBER = 10;
        private static final int FIRST_JOIN = 40;
        private static final int LESS = 40;
        private static final int EQUAL = 41;
        private static final int NOT = 42;
        private static final int BOTH = 43;
        private static final int ONE = 44;

        private final int[] row = new int[MOST_ROW];
        private final int[] known = new int[KNOWN + 1];

        static boolean isSign(int v) {
            return v >= 1 && v <= KNOWN || v >= FIRST_NUMBER && v < FIRST_NUMBER + HOURS
                    || v >= FIRST_JOIN && v <= ONE;
        }

        void suppose(int hour, int length, int weight, int lane, int kind, int porter) {
            known[1] = hour;
            known[2] = length;
            known[3] = weight;
            known[4] = lane;
            known[5] = kind;
            known[6] = porter;
        }

        boolean let(int[] text, int signs) {
            return signs == 0 || firstFault(text, signs) == NO && row[0] != 0;
        }

        /** NO if the text is right: row[0] is what it ends with then. */
        int firstFault(int[] text, int signs) {
            int count = 0;
            for (int i = 0; i < signs; i++) {
                int asked = asked(text[i]);
                int under = count - asked;
                if (under < 0 || under >= MOST_ROW) {
                    return i;
                }
                row[under] = worked(text[i], under);
                count = under + 1;
            }
            return signs == 0 || count == 1 ? NO : signs;
        }

        private static int asked(int sign) {
            if (sign < FIRST_JOIN) {
                return 0;
            }
            return sign == NOT ? 1 : 2;
        }

        /** What a sign makes of the numbers from a place of the row on. */
        private int worked(int sign, int place) {
            if (sign < FIRST_JOIN) {
                return sign >= FIRST_NUMBER ? sign - FIRST_NUMBER : knownBy(sign);
            }
            int first = row[place];
            if (sign == NOT) {
                return first == 0 ? 1 : 0;
            }
            int last = place + 1 < MOST_ROW ? row[place + 1] : 0;
            return joins(sign, first, last) ? 1 : 0;
        }

        private int knownBy(int sign) {
            return sign >= 1 && sign <= KNOWN ? known[sign] : 0;
        }

        private static boolean joins(int sign, int first, int last) {
            switch (sign) {
                case LESS: return first < last;
                case EQUAL: return first == last;
                case BOTH: return first != 0 && last != 0;
                default: return first != 0 || last != 0;
            }
        }
    }

    /** Tries all orders in which cars can be taken out ahead of the water. */
    private static final class Rescuing {
        final int[] best = new int[MOST_CARS];
        int bestCount = 0;
        private final int[] taken = new int[MOST_CARS];
        private final int[] left = new int[MOST_LANES];
        private int bestWorth = NO;

        int mostWorth(Garage garage, int pace) {
            bestWorth = NO;
            for (int lane = 0; lane < garage.lanes; lane++) {
                left[lane] = garage.broken[lane] != 0 ? 0 : garage.standing[lane];
            }
            takeMore(garage, pace, 0, 0);
            return bestWorth;
        }

        /** Orders come by their lanes' numbers, so that of like ones the first stays the best. */
        private void takeMore(Garage garage, int pace, int count, int worth) {
            if (worth > bestWorth || worth == bestWorth && count < bestCount) {
                bestWorth = worth;
                bestCount = count;
                System.arraycopy(taken, 0, best, 0, best.length);
            }
            if (count >= MOST_CARS) {
                return;
            }
            int minute = pace * (count + 1);
            for (int lane = 0; lane < garage.lanes; lane++) {
                if (left[lane] <= 0 || garage.floodMinute(lane) < minute) {
                    continue;
                }
                left[lane]--;
                int car = garage.carAt(lane, left[lane]);
                taken[count] = car;
                takeMore(garage, pace, count + 1, worth + garage.fact(car, Garage.WORTH));
                left[lane]++;
            }
        }
    }

    /** The sheets; of no bits is one that is missing. */
    private static final class Sheets {
        final int[] bits = new int[SHEETS];
        final int[] size = new int[SHEETS];
        private final int[] numbers = new int[SHEETS * MOST_NUMBERS];

        boolean isSheet(int s) {
            return s >= 0 && s < SHEETS;
        }

        boolean isMissing(int s) {
            return bits[s] == 0;
        }

        void begin(int s, int itsBits, int n) {
            bits[s] = itsBits;
            size[s] = n;
            Arrays.fill(numbers, s * MOST_NUMBERS, (s + 1) * MOST_NUMBERS, 0);
        }

        int number(int s, int i) {
            return numbers[s * MOST_NUMBERS + i];
        }

        void write(int s, int i, int v) {
            // An int's shift by 32 would be none, so a sheet of 32 bits is kept apart.
            numbers[s * MOST_NUMBERS + i] = bits[s] == 32 ? v : v & (1 << bits[s]) - 1;
        }

        /** The numbers are compared without from + n, which could wrap around. */
        boolean hasSpan(int s, int from, int n) {
            return from >= 0 && n >= 0 && from <= size[s] && n <= size[s] - from;
        }

        void carryOver(int s, int from, int t, int to, int n) {
            System.arraycopy(numbers, s * MOST_NUMBERS + from, numbers, t * MOST_NUMBERS + to, n);
        }
    }
}
