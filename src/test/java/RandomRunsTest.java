import java.util.ArrayDeque;
import java.util.Arrays;
import java.util.Deque;
import java.util.List;
import java.util.Random;

/**
 * All promises: runs of random calls on an object and on the Model, answer by answer. With two numbers
 * it tries other runs: the first one's number, and how many; a third word asks how often each was called.
 */
public final class RandomRunsTest {
    private static final int[] EDGES = {-1, -2, Integer.MIN_VALUE, Integer.MAX_VALUE, 4, 5, 7, 8, 9, 10, 16,
        20, 21, 23, 24, 30, 31, 99, 100, 200, 201, 999, 1000, 9999, 10000};
    private static final int[] BITS = {8, 8, 16, 32, 0};
    private final Random random;
    private final int[] likely = new int[Calls.NAMES.length];
    private final int[] a = new int[6];
    private final boolean cramped;
    private final Model model = new Model();
    private final Deque<int[]> soon = new ArrayDeque<>();

    private RandomRunsTest(long seed) {
        random = new Random(seed);
        cramped = random.nextInt(3) == 0;
        for (int i = 0; i < likely.length; i++) {
            likely[i] = 1 + random.nextInt(6);
        }
        likely[Calls.number("lane")] = 1;
        likely[Calls.number("car")] = 1;
        likely[Calls.number("park")] = 4 + random.nextInt(20);
        likely[Calls.number("undo")] = random.nextInt(12);
    }

    public static void main(String[] args) {
        long first = args.length > 1 ? Long.parseLong(args[0]) : 1;
        long count = args.length > 1 ? Long.parseLong(args[1]) : 150;
        int[] fine = new int[Calls.NAMES.length];
        int[] found = new int[Calls.NAMES.length];
        int wrong = 0;
        for (long seed = first; seed < first + count && wrong < 5; seed++) {
            wrong += new RandomRunsTest(seed).run(seed, fine, found) ? 0 : 1;
        }
        for (int i = 0; i < Calls.NAMES.length; i++) {
            if (args.length > 2) {
                System.out.println(Calls.NAMES[i] + ": " + fine[i] + " without a finding, " + found[i] + " with one");
            }
            if (fine[i] == 0 && count >= 50) {
                wrong++;
                System.out.println(Calls.NAMES[i] + " was never called without a finding");
            }
        }
        System.out.println(count + " runs, " + wrong + " not as due");
        if (wrong != 0) {
            System.exit(1);
        }
    }

    private boolean run(long seed, int[] fine, int[] found) {
        CellarCars x = new CellarCars();
        StringBuilder told = new StringBuilder();
        for (int n = 0; n < 512; n++) {
            int which = next(n);
            int due = model.call(which, a);
            int got = Calls.make(x, which, a);
            told.append(Calls.NAMES[which]).append(Arrays.toString(a)).append(" = ").append(got).append('\n');
            if (got != due) {
                System.out.println("run " + seed + ", call " + n + ", due is " + due + "\n" + told);
                return false;
            }
            (due < -99999 ? found : fine)[which]++;
        }
        return true;
    }

    /** Makes a call ready: lanes and cars at first, then single ones, and rows of calls that belong together. */
    private int next(int n) {
        if (soon.isEmpty() && n > 20 && random.nextInt(6) == 0) {
            row(random.nextInt(10));
        }
        if (!soon.isEmpty()) {
            int[] call = soon.poll();
            System.arraycopy(call, 1, a, 0, a.length);
            return call[0];
        }
        int which = n < 12 ? Calls.number(n % 3 == 0 ? "lane" : "car") : pick();
        arguments(which, n < 12);
        return which;
    }

    private void later(String name, int... arguments) {
        int[] call = new int[7];
        call[0] = Calls.number(name);
        System.arraycopy(arguments, 0, call, 1, arguments.length);
        soon.add(call);
    }

    private void row(int kind) {
        int car = random.nextInt(8);
        switch (kind) {
            case 0: case 1: case 2: shunts(); break;
            case 3: proof(); break;
            case 4: evening(); break;
            case 5: rule(); break;
            case 6:
                for (int i = 0; i < 8; i++) {
                    later("note", i, random.nextInt(4), random.nextInt(5) == 0 ? 0 : 1);
                }
                break;
            case 7: case 8:
                int most = 1 + random.nextInt(5);
                for (int i = 0; i < 8; i++) {
                    later("park", random.nextInt(8), random.nextInt(most));
                }
                break;
            default:
                for (int i = 0; i < 4; i++) {
                    later("harm", car, i, random.nextInt(10000));
                    later("rescued", i);
                    later("charging", random.nextInt(24));
                }
                break;
        }
    }

    /** One car to and fro, with looks at it. */
    private void shunts() {
        int car = model.carAtFront(random.nextInt(5));
        int lane = model.laneFor(car, random.nextInt(5));
        if (car < 0 || lane < 0) {
            return;
        }
        int back = model.call(Calls.number("carIs"), new int[] {car, 6, 0, 0, 0, 0});
        later("look", car, random.nextInt(8) == 0 ? 1 : 0);
        for (int i = 0; i < random.nextInt(6); i++) {
            later("porter", random.nextInt(4));
            later("shunt", car, i % 2 == 0 ? lane : back);
        }
        later("look", car, random.nextInt(8) == 0 ? 0 : 1);
        for (int porter = 0; porter < 4; porter++) {
            later("harm", car, porter, random.nextInt(10000));
        }
    }

    private void proof() {
        int car = random.nextInt(8);
        int[] row = model.rowFor(car);
        int s = random.nextInt(4);
        later("fewest", car);
        later("sheet", s, 32, row.length);
        for (int i = 0; i < row.length; i++) {
            later("step", car, i);
            later("put", s, i, random.nextInt(10) == 0 ? row[i] ^ 1 : row[i]);
        }
        later("proves", car, s);
        later("proves", random.nextInt(8), s);
    }

    private void evening() {
        List<Integer> cars = Arrays.asList(0, 1, 2, 3, 4, 5, 6, 7);
        java.util.Collections.shuffle(cars, random);
        later("clear");
        for (int i = 0; i < 1 + random.nextInt(8); i++) {
            later("arrive", cars.get(i));
        }
        later("plan");
        for (int i = 0; i < 8; i++) {
            later("planned", i);
        }
    }

    /** A text that is right at least until one of its signs goes astray. */
    private void rule() {
        int s = random.nextInt(4);
        int[] signs = new int[16];
        int count = 0;
        int open = 0;
        while (count < 12 && (count == 0 || open != 1 || random.nextInt(4) > 0)) {
            int sign = random.nextInt(3) == 0 ? 1 + random.nextInt(6) : 10 + random.nextInt(24);
            if (open >= 2 && random.nextInt(2) == 0 || open >= 5) {
                sign = new int[] {40, 41, 43, 44}[random.nextInt(4)];
            } else if (open >= 1 && random.nextInt(5) == 0) {
                sign = 42;
            }
            open += sign < 40 ? 1 : sign == 42 ? 0 : -1;
            signs[count++] = sign;
        }
        later("sheet", s, BITS[random.nextInt(4)], count);
        for (int i = 0; i < count; i++) {
            later("put", s, i, random.nextInt(40) == 0 ? random.nextInt(50) : signs[i]);
        }
        later("text", s);
        later("wrong");
        for (int i = 0; i < 4; i++) {
            later("lets", random.nextInt(8), random.nextInt(5), random.nextInt(24));
        }
        if (random.nextInt(3) > 0) {
            later("undo");
        }
    }

    private int pick() {
        int sum = 0;
        for (int l : likely) {
            sum += l;
        }
        int at = random.nextInt(sum);
        int which = 0;
        while (at >= likely[which]) {
            at -= likely[which];
            which++;
        }
        return which;
    }

    private void set(int... most) {
        for (int i = 0; i < most.length; i++) {
            a[i] = random.nextInt(most[i] + 1);
        }
    }

    /** Mostly such as can be; at times one is far off. */
    private void arguments(int which, boolean plain) {
        Arrays.fill(a, 0);
        likelyArguments(which);
        if (!plain && random.nextInt(25) == 0) {
            a[random.nextInt(3)] = EDGES[random.nextInt(EDGES.length)];
        }
    }

    private void likelyArguments(int which) {
        switch (Calls.NAMES[which]) {
            case "lane":
                set(3, cramped ? 3 : 8, 9, 50);
                a[1] += cramped ? 2 : 5;
                a[2] += 6;
                a[3] += 49;
                break;
            case "car":
                set(3, 7, 30, 23, random.nextInt(10), random.nextInt(4) == 0 ? 0 : 99);
                for (int i = 0; i < 3; i++) {
                    a[i]++;
                }
                break;
            case "as": set(4, 3); break;
            case "laneIs": set(4, 7); break;
            case "breaks": set(4, 3); a[1] = a[1] == 0 ? 1 : 0; break;
            case "carIs": set(7, 7); break;
            case "tell": set(7, 2, 9); break;
            case "at": set(4, 4); break;
            case "fits": case "park": case "shunt": set(7, 4); break;
            case "step": case "proves": set(7, 3); break;
            case "morning": set(5); a[0]--; break;
            case "hour": case "charging": set(23); break;
            case "chargers": case "porter": set(3); break;
            case "bid": set(4, 4, random.nextInt(3) == 0 ? 5 : 999); break;
            case "given": case "rent": set(4); break;
            case "look": set(random.nextInt(8), 1); break;
            case "harm": set(random.nextInt(8), 3, random.nextBoolean() ? 20 : 9999); break;
            case "text": set(3); break;
            case "lets": set(7, 4, 23); break;
            case "flood": set(4, random.nextBoolean() ? 60 : 150); break;
            case "pace": set(29); a[0]++; break;
            case "note": set(7, 23, 4); a[1] *= random.nextInt(2); a[2] = a[2] == 0 ? 0 : 1; break;
            case "key": set(7, 23, 12); break;
            case "sheet": set(3, 4, 6); a[1] = BITS[a[1]]; break;
            case "put": set(3, 5, 63); break;
            case "copy": set(3, 3, 3, 3, 3); break;
            case "all": set(6); break;
            default: set(7); break;
        }
    }
}
