import java.util.ArrayList;
import java.util.Arrays;
import java.util.Collections;
import java.util.HashSet;
import java.util.List;
import java.util.Random;
import java.util.Set;

/** Long runs of mixed calls, each answer against a model that is written from the document in another way. */
public final class ModelTest {
    private static final int RUNS = 400;
    private static final int CALLS = 256;
    private static final int NONE = -1;

    public static void main(String[] args) {
        for (int seed = 1; seed <= RUNS; seed++) {
            compareRun(seed);
        }
        Check.end("ModelTest");
    }

    private static void compareRun(int seed) {
        Random random = new Random(seed);
        Cascadecourt court = new Cascadecourt();
        Model model = new Model();
        for (int call = 0; call < CALLS; call++) {
            int kind = random.nextInt(23);
            int[] given = kind == 0 && random.nextInt(4) > 0 ? soundRow(random) : numbers(random, kind);
            String what = "run " + seed + ", call " + call + ", " + kind + " " + Arrays.toString(given);
            Object due = Check.outcome(() -> model.call(kind, given));
            Check.that(what, due, Check.outcome(() -> callOf(court, kind, given)));
            if (call % 4 == 0) {
                Check.that(what + ": digest", model.digest(), court.digest());
            }
        }
    }

    private static int[] numbers(Random random, int kind) {
        return new int[] {number(random, kind, 0), number(random, kind, 1), number(random, kind, 2)};
    }

    /** What tell() is given for a SOUND ROW, as few lists of THROWS are sound by chance. */
    private static int[] soundRow(Random random) {
        int length = 1 + random.nextInt(8);
        List<Integer> landings = new ArrayList<>();
        for (int site = 0; site < length; site++) {
            landings.add(site);
        }
        Collections.shuffle(landings, random);
        int told = 0;
        for (int site = 0; site < length; site++) {
            int height = Math.floorMod(landings.get(site) - site, length);
            while (height + length <= 9 && random.nextInt(3) == 0) {
                height += length;
            }
            told = told * 10 + height;
        }
        return new int[] {told, length, 0};
    }

    /** Mostly what fits the call, so that the runs come far; now and then something else. */
    private static int number(Random random, int kind, int place) {
        if (random.nextInt(40) == 0) {
            return random.nextInt(14) - 2;
        }
        if (kind == 0) {
            return place == 0 ? random.nextInt(1 << random.nextInt(28)) : 1 + random.nextInt(8);
        }
        if (kind == 3 && place == 1) {
            return random.nextInt(5) - 2;
        }
        if (kind == 9 && place == 2) {
            return 1 + random.nextInt(random.nextBoolean() ? 3 : 30);
        }
        if (kind == 7 || kind == 20 && place == 0) {
            return 1 + random.nextInt(kind == 7 ? 6 : 4);
        }
        int bound = place == 0 ? 8 : place == 1 ? 4 : 5;
        return random.nextInt(kind == 8 || kind == 18 || kind == 15 || place == 1 && random.nextBoolean() ? 10 : bound);
    }

    private static Object callOf(Cascadecourt court, int kind, int[] given) {
        int a = given[0];
        int b = given[1];
        int c = given[2];
        switch (kind) {
            case 0: return court.tell(a, b);
            case 1: return court.shift(a, b);
            case 2: return court.swap(a, b, c);
            case 3: return court.raise(a, b);
            case 4: return court.turn(a);
            case 5: return court.join(a, b);
            case 6: return court.pick();
            case 7: return court.take(a);
            case 8: return court.toss(a);
            case 9: return court.run(a, b, c);
            case 10: return court.ofRow(a, b);
            case 11: return court.ofSite(a, b, c);
            case 12: return court.text(a);
            case 13: return court.ofProp(a, b);
            case 14: return court.tired();
            case 15: return court.many(a);
            case 16: return court.high(a);
            case 17: return court.way(a);
            case 18: return court.would(a);
            case 19: return court.first(a);
            case 20: return court.count(a, b);
            case 21: return court.alike(a, b);
            default: return court.digest();
        }
    }

    /** The document once more: ROWS as lists of whole beats, props with the beats that are left to them. */
    private static final class Model {
        private final List<int[]> rows = new ArrayList<>();
        private final List<int[]> props = new ArrayList<>(); // beats left (NONE: DROPPED), FLIGHTS, drops
        private int beat = 0;
        private int slips = 0;
        private int beats = 0;
        private int eighths = 0;

        Object call(int kind, int[] given) {
            int a = given[0];
            int b = given[1];
            int c = given[2];
            switch (kind) {
                case 0: return tell(a, b);
                case 1: return shift(a, b);
                case 2: return swap(a, b, c);
                case 3: return raise(a, b);
                case 4: return turn(a);
                case 5: return join(a, b);
                case 6: return pick();
                case 7: return take(a);
                case 8: mustBe(a >= 0 && a <= 9); return toss(a);
                case 9: return run(a, b, c);
                case 10: row(a); mustBe(b >= 0 && b <= 9); return ofRow(row(a), b);
                case 11: site(a, b); mustBe(c >= 0 && c <= 4); return ofSite(row(a), b, c);
                case 12: return text(row(a));
                case 13: return ofProp(a, b);
                case 14: return eighths / 8.0;
                case 15: mustBe(a >= 0 && a <= 9); return many(a);
                case 16: return high(row(a));
                case 17: return way(row(a))[0];
                case 18: mustBe(a >= 0 && a <= 9); return behind(state(), a);
                case 19: return way(row(a))[1];
                case 20: return count(a, b);
                case 21: return alike(row(a), row(b));
                default: return digest();
            }
        }

        private static void mustBe(boolean fits) {
            if (!fits) {
                throw new IllegalArgumentException();
            }
        }

        private static void mustStand(boolean fits) {
            if (!fits) {
                throw new IllegalStateException();
            }
        }

        private int[] row(int number) {
            if (number < 0 || number >= rows.size()) {
                throw new IndexOutOfBoundsException();
            }
            return rows.get(number);
        }

        private void site(int number, int site) {
            if (site < 0 || site >= row(number).length) {
                throw new IndexOutOfBoundsException();
            }
        }

        private Object tell(int told, int length) {
            mustBe(told >= 0 && length >= 1 && length <= 8 && String.valueOf(told).length() <= length);
            mustStand(rows.size() < 8);
            String digits = "00000000" + told;
            digits = digits.substring(digits.length() - length);
            rows.add(digits.chars().map(sign -> sign - '0').toArray());
            return rows.size() - 1;
        }

        private boolean become(int number, int[] next) {
            boolean other = !Arrays.equals(row(number), next);
            rows.set(number, next);
            return other;
        }

        private static int[] shifted(int[] row, int by) {
            int[] next = row.clone();
            for (int times = 0; times < by; times++) {
                int[] now = next.clone();
                System.arraycopy(now, 1, next, 0, now.length - 1);
                next[now.length - 1] = now[0];
            }
            return next;
        }

        private Object shift(int number, int by) {
            row(number);
            mustBe(by >= 0 && by <= 7);
            return become(number, shifted(row(number), by));
        }

        private static boolean areThrows(int[] row) {
            return Arrays.stream(row).allMatch(height -> height >= 0 && height <= 9);
        }

        private Object swap(int number, int one, int other) {
            site(number, one);
            site(number, other);
            mustBe(one != other);
            // Each one's landing stays as a beat; only who goes there changes.
            int[] next = row(number).clone();
            next[one] = other + row(number)[other] - one;
            next[other] = one + row(number)[one] - other;
            mustStand(areThrows(next));
            become(number, next);
            return next[Math.min(one, other)];
        }

        private Object raise(int number, int by) {
            row(number);
            mustBe(by >= -9 && by <= 9);
            int[] next = Arrays.stream(row(number)).map(height -> height + by).toArray();
            mustStand(areThrows(next));
            become(number, next);
            return Arrays.stream(next).sum();
        }

        private Object turn(int number) {
            int[] row = row(number);
            mustStand(isSound(row));
            int[] next = new int[row.length];
            for (int from = -40 * row.length; from < 40 * row.length; from++) {
                int to = from + row[Math.floorMod(from, row.length)];
                if (-to >= 0 && -to < row.length) {
                    next[-to] = to - from;
                }
            }
            return become(number, next);
        }

        private Object join(int first, int second) {
            int[] one = row(first);
            int[] other = row(second);
            mustStand(one.length + other.length <= 8);
            int[] next = Arrays.copyOf(one, one.length + other.length);
            System.arraycopy(other, 0, next, one.length, other.length);
            become(first, next);
            return next.length;
        }

        private Object take(int taken) {
            mustBe(taken >= 1 && taken <= 6);
            props.clear();
            for (int prop = 0; prop < taken; prop++) {
                props.add(new int[] {prop, 0, 0});
            }
            beat = 0;
            eighths = 0;
            return state();
        }

        private int at(int left) {
            for (int prop = 0; prop < props.size(); prop++) {
                if (props.get(prop)[0] == left) {
                    return prop;
                }
            }
            return NONE;
        }

        private int state() {
            int state = 0;
            for (int left = 0; left <= 8; left++) {
                state += at(left) == NONE ? 0 : 1 << left;
            }
            return state;
        }

        private void drop(int prop) {
            props.get(prop)[0] = NONE;
            props.get(prop)[2]++;
        }

        private int toss(int height) {
            int now = at(0);
            int then = at(height);
            int thrown = NONE;
            if (now == NONE && height > 0) {
                slips++;
            } else if (now != NONE && height == 0) {
                slips++;
                drop(now);
            } else if (now != NONE && then != NONE) {
                slips++;
                drop(now);
                drop(then);
            } else if (now != NONE) {
                thrown = now;
                props.get(now)[0] = height;
                props.get(now)[1]++;
            }
            eighths = Math.max(0, eighths + (thrown == NONE ? -2 : height));
            for (int[] prop : props) {
                prop[0] -= prop[0] == NONE ? 0 : 1;
            }
            beat++;
            beats++;
            return thrown;
        }

        private Object run(int number, int site, int times) {
            site(number, site);
            mustBe(times >= 1 && times <= 30);
            int before = slips;
            int[] row = row(number);
            for (int time = 0; time < times; time++) {
                toss(row[(site + time) % row.length]);
            }
            return slips - before;
        }

        private Object pick() {
            int dropped = at(NONE);
            if (dropped == NONE || at(0) != NONE) {
                return NONE;
            }
            props.get(dropped)[0] = 0;
            return dropped;
        }

        private static boolean isSound(int[] row) {
            Set<Integer> landings = new HashSet<>();
            for (int from = 0; from < 20 * row.length; from++) {
                if (!landings.add(from + row[from % row.length])) {
                    return false;
                }
            }
            return true;
        }

        /** The STATE of a SOUND ROW at the SITE, by a juggler who has thrown it for long. */
        private static int stateOf(int[] row, int site) {
            int start = 10 * row.length + site;
            Set<Integer> landings = new HashSet<>();
            for (int from = 0; from < start; from++) {
                if (row[from % row.length] > 0) {
                    landings.add(from + row[from % row.length]);
                }
            }
            int state = 0;
            for (int ahead = 0; ahead <= 8; ahead++) {
                state += landings.contains(start + ahead) ? 1 << ahead : 0;
            }
            return state;
        }

        private static Set<Integer> statesOf(int[] row) {
            Set<Integer> states = new HashSet<>();
            for (int site = 0; site < row.length; site++) {
                states.add(stateOf(row, site));
            }
            return states;
        }

        /** TURN of the ORBIT: the THROWS of one prop, added till it is at that SITE again. */
        private static int turnOf(int[] row, int site) {
            int from = site;
            do {
                from += row[from % row.length];
            } while (row[site] > 0 && from % row.length != site);
            return from - site;
        }

        private static int orbitsOf(int[] row) {
            Set<Set<Integer>> orbits = new HashSet<>();
            for (int site = 0; site < row.length; site++) {
                Set<Integer> orbit = new HashSet<>();
                int from = site;
                while (row[site] > 0 && orbit.add(from % row.length)) {
                    from += row[from % row.length];
                }
                if (!orbit.isEmpty()) {
                    orbits.add(orbit);
                }
            }
            return orbits.size();
        }

        private static int propsOf(int[] row) {
            return isSound(row) ? Arrays.stream(row).sum() / row.length : NONE;
        }

        private static int ofRow(int[] row, int what) {
            boolean sound = isSound(row);
            switch (what) {
                case 0: return row.length;
                case 1: return sound ? 1 : 0;
                case 2: return propsOf(row);
                case 3: return Arrays.stream(row).max().getAsInt();
                case 4: return (int) Arrays.stream(row).filter(height -> height % 2 == 1).count();
                case 5: return sound ? orbitsOf(row) : NONE;
                case 6: return !sound ? NONE : statesOf(row).size() == row.length ? 1 : 0;
                case 7: return !sound ? NONE : statesOf(row).contains((1 << propsOf(row)) - 1) ? 1 : 0;
                case 8: return periodOf(row);
                default: return sound ? greatestTurn(row) : NONE;
            }
        }

        private static int periodOf(int[] row) {
            int beats = 1;
            while (row.length % beats != 0 || !Arrays.equals(row, shifted(row, beats))) {
                beats++;
            }
            return beats;
        }

        private static int greatestTurn(int[] row) {
            int greatest = 0;
            for (int site = 0; site < row.length; site++) {
                greatest = Math.max(greatest, turnOf(row, site));
            }
            return greatest;
        }

        private static int ofSite(int[] row, int site, int what) {
            boolean sound = isSound(row);
            switch (what) {
                case 0: return row[site];
                case 1: return (site + row[site]) % row.length;
                case 2: return sound ? stateOf(row, site) : NONE;
                case 3: return sound ? turnOf(row, site) : NONE;
                default: return sound ? turnOf(row, site) / row.length : NONE;
            }
        }

        private static String text(int[] row) {
            StringBuilder text = new StringBuilder();
            for (int height : row) {
                text.append(height);
            }
            return text.toString();
        }

        private int ofProp(int prop, int what) {
            if (prop < 0 || prop >= props.size()) {
                throw new IndexOutOfBoundsException();
            }
            mustBe(what >= 0 && what <= 3);
            int[] asked = props.get(prop);
            return what < 3 ? asked[what] : asked[0] == NONE ? NONE : (beat + asked[0]) % 2;
        }

        private int many(int what) {
            switch (what) {
                case 0: return rows.size();
                case 1: return props.size();
                case 2: return state();
                case 3: return beat;
                case 4: return slips;
                case 5: return (int) props.stream().filter(prop -> prop[0] == NONE).count();
                case 6: return props.stream().mapToInt(prop -> prop[1]).sum();
                case 7: return (int) rows.stream().filter(Model::isSound).count();
                case 8: return at(0);
                default: return beats;
            }
        }

        private static double high(int[] row) {
            int t = Arrays.stream(row).max().getAsInt();
            return t < 2 ? 0.0 : Math.rint(4.0 * (1.225 * (0.25 * t - 0.25) * (0.25 * t - 0.25))) / 4.0;
        }

        private static int behind(int state, int height) {
            if ((state % 2 == 1) != (height > 0) || height > 0 && (state / (1 << height)) % 2 == 1) {
                return NONE;
            }
            return (state + (height > 0 ? 1 << height : 0)) / 2;
        }

        /** How far it is, and by which THROW first: from the ROW backwards, not from the juggler on. */
        private int[] way(int[] row) {
            if (!isSound(row) || propsOf(row) != Integer.bitCount(state())) {
                return new int[] {NONE, NONE};
            }
            int[] far = new int[512];
            Arrays.fill(far, 1000);
            for (int state : statesOf(row)) {
                far[state] = 0;
            }
            boolean nearer = true;
            while (nearer) {
                nearer = false;
                for (int from = 0; from < 512; from++) {
                    for (int height = 0; height <= 9; height++) {
                        int to = behind(from, height);
                        if (to != NONE && far[to] + 1 < far[from]) {
                            far[from] = far[to] + 1;
                            nearer = true;
                        }
                    }
                }
            }
            int first = NONE;
            for (int height = 9; height >= 0 && far[state()] > 0; height--) {
                int to = behind(state(), height);
                first = to != NONE && far[to] == far[state()] - 1 ? height : first;
            }
            return new int[] {far[state()], first};
        }

        private static Object count(int length, int wanted) {
            mustBe(length >= 1 && length <= 4 && wanted >= 0 && wanted <= 9);
            int found = 0;
            for (int told = 0; told < Math.round(Math.pow(10, length)); told++) {
                int[] row = new int[length];
                for (int site = 0, digits = told; site < length; site++, digits /= 10) {
                    row[site] = digits % 10;
                }
                if (Arrays.stream(row).sum() == wanted * length && isSound(row)) {
                    found++;
                }
            }
            return found;
        }

        private static Object alike(int[] one, int[] other) {
            for (int by = 0; by <= 7; by++) {
                if (Arrays.equals(shifted(one, by), other)) {
                    return by;
                }
            }
            return NONE;
        }

        private long digest() {
            List<Integer> numbers = new ArrayList<>();
            for (int what = 0; what <= 9; what++) {
                numbers.add(many(what));
            }
            for (int[] row : rows) {
                for (int what = 0; what <= 9; what++) {
                    numbers.add(ofRow(row, what));
                }
                for (int site = 0; site < row.length; site++) {
                    for (int what = 0; what <= 4; what++) {
                        numbers.add(ofSite(row, site, what));
                    }
                }
                int[] way = way(row);
                numbers.add(way[0]);
                numbers.add(way[1]);
            }
            for (int prop = 0; prop < props.size(); prop++) {
                for (int what = 0; what <= 3; what++) {
                    numbers.add(ofProp(prop, what));
                }
            }
            for (int height = 0; height <= 9; height++) {
                numbers.add(behind(state(), height));
            }
            numbers.add(eighths);
            long sum = 58305;
            for (int number : numbers) {
                sum = sum * 31 + number;
            }
            return sum;
        }
    }
}
