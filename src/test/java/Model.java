import java.util.ArrayList;
import java.util.Arrays;
import java.util.HashSet;
import java.util.List;
import java.util.Set;

/**
 * The document once more, written in another way than the program, with the same calls:
 * ROWS as lists of whole beats, props with the beats that are left to them.
 */
final class Model {
    private static final int NONE = -1;

    private final List<int[]> rows = new ArrayList<>();
    private final List<int[]> props = new ArrayList<>(); // beats left (NONE: DROPPED), FLIGHTS, drops
    private int beat = 0;
    private int slips = 0;
    private int beats = 0;
    private int eighths = 0;

    private static void mustBe(boolean fits) {
        if (!fits) {
            throw new IllegalArgumentException();
        }
    }

    private static void mustStand(boolean fits) {
        if (!fits) {
            throw new IllegalStateException();
        }
    }

    private int[] row(int number) {
        if (number < 0 || number >= rows.size()) {
            throw new IndexOutOfBoundsException();
        }
        return rows.get(number);
    }

    private void site(int number, int site) {
        if (site < 0 || site >= row(number).length) {
            throw new IndexOutOfBoundsException();
        }
    }

    int tell(int told, int length) {
        mustBe(told >= 0 && length >= 1 && length <= 8 && String.valueOf(told).length() <= length);
        mustStand(rows.size() < 8);
        String digits = "00000000" + told;
        digits = digits.substring(digits.length() - length);
        rows.add(digits.chars().map(sign -> sign - '0').toArray());
        return rows.size() - 1;
    }

    private boolean become(int number, int[] next) {
        boolean other = !Arrays.equals(row(number), next);
        rows.set(number, next);
        return other;
    }

    private static int[] shifted(int[] row, int by) {
        int[] next = row.clone();
        for (int times = 0; times < by; times++) {
            int[] now = next.clone();
            System.arraycopy(now, 1, next, 0, now.length - 1);
            next[now.length - 1] = now[0];
        }
        return next;
    }

    boolean shift(int number, int by) {
        row(number);
        mustBe(by >= 0 && by <= 7);
        return become(number, shifted(row(number), by));
    }

    private static boolean areThrows(int[] row) {
        return Arrays.stream(row).allMatch(height -> height >= 0 && height <= 9);
    }

    int swap(int number, int one, int other) {
        site(number, one);
        site(number, other);
        mustBe(one != other);
        // Each one's landing stays as a beat; only who goes there changes.
        int[] next = row(number).clone();
        next[one] = other + row(number)[other] - one;
        next[other] = one + row(number)[one] - other;
        mustStand(areThrows(next));
        become(number, next);
        return next[Math.min(one, other)];
    }

    int raise(int number, int by) {
        row(number);
        mustBe(by >= -9 && by <= 9);
        int[] next = Arrays.stream(row(number)).map(height -> height + by).toArray();
        mustStand(areThrows(next));
        become(number, next);
        return Arrays.stream(next).sum();
    }

    boolean turn(int number) {
        int[] row = row(number);
        mustStand(isSound(row));
        int[] next = new int[row.length];
        for (int from = -40 * row.length; from < 40 * row.length; from++) {
            int to = from + row[Math.floorMod(from, row.length)];
            if (-to >= 0 && -to < row.length) {
                next[-to] = to - from;
            }
        }
        return become(number, next);
    }

    int join(int first, int second) {
        int[] one = row(first);
        int[] other = row(second);
        mustStand(one.length + other.length <= 8);
        int[] next = Arrays.copyOf(one, one.length + other.length);
        System.arraycopy(other, 0, next, one.length, other.length);
        become(first, next);
        return next.length;
    }

    int take(int taken) {
        mustBe(taken >= 1 && taken <= 6);
        props.clear();
        for (int prop = 0; prop < taken; prop++) {
            props.add(new int[] {prop, 0, 0});
        }
        beat = 0;
        eighths = 0;
        return state();
    }

    private int at(int left) {
        for (int prop = 0; prop < props.size(); prop++) {
            if (props.get(prop)[0] == left) {
                return prop;
            }
        }
        return NONE;
    }

    private int state() {
        int state = 0;
        for (int left = 0; left <= 8; left++) {
            state += at(left) == NONE ? 0 : 1 << left;
        }
        return state;
    }

    private void drop(int prop) {
        props.get(prop)[0] = NONE;
        props.get(prop)[2]++;
    }

    int toss(int height) {
        mustBe(height >= 0 && height <= 9);
        int now = at(0);
        int then = at(height);
        int thrown = NONE;
        if (now == NONE && height > 0) {
            slips++;
        } else if (now != NONE && height == 0) {
            slips++;
            drop(now);
        } else if (now != NONE && then != NONE) {
            slips++;
            drop(now);
            drop(then);
        } else if (now != NONE) {
            thrown = now;
            props.get(now)[0] = height;
            props.get(now)[1]++;
        }
        eighths = Math.max(0, eighths + (thrown == NONE ? -2 : height));
        for (int[] prop : props) {
            prop[0] -= prop[0] == NONE ? 0 : 1;
        }
        beat++;
        beats++;
        return thrown;
    }

    int run(int number, int site, int times) {
        site(number, site);
        mustBe(times >= 1 && times <= 30);
        int before = slips;
        int[] row = row(number);
        for (int time = 0; time < times; time++) {
            toss(row[(site + time) % row.length]);
        }
        return slips - before;
    }

    int pick() {
        int dropped = at(NONE);
        if (dropped == NONE || at(0) != NONE) {
            return NONE;
        }
        props.get(dropped)[0] = 0;
        return dropped;
    }

    private static boolean isSound(int[] row) {
        Set<Integer> landings = new HashSet<>();
        for (int from = 0; from < 20 * row.length; from++) {
            if (!landings.add(from + row[from % row.length])) {
                return false;
            }
        }
        return true;
    }

    /** The STATE of a SOUND ROW at the SITE, by a juggler who has thrown it for long. */
    private static int stateOf(int[] row, int site) {
        int start = 10 * row.length + site;
        Set<Integer> landings = new HashSet<>();
        for (int from = 0; from < start; from++) {
            if (row[from % row.length] > 0) {
                landings.add(from + row[from % row.length]);
            }
        }
        int state = 0;
        for (int ahead = 0; ahead <= 8; ahead++) {
            state += landings.contains(start + ahead) ? 1 << ahead : 0;
        }
        return state;
    }

    private static Set<Integer> statesOf(int[] row) {
        Set<Integer> states = new HashSet<>();
        for (int site = 0; site < row.length; site++) {
            states.add(stateOf(row, site));
        }
        return states;
    }

    /** TURN of the ORBIT: the THROWS of one prop, added till it is at that SITE again. */
    private static int turnOf(int[] row, int site) {
        int from = site;
        do {
            from += row[from % row.length];
        } while (row[site] > 0 && from % row.length != site);
        return from - site;
    }

    private static int orbitsOf(int[] row) {
        Set<Set<Integer>> orbits = new HashSet<>();
        for (int site = 0; site < row.length; site++) {
            Set<Integer> orbit = new HashSet<>();
            int from = site;
            while (row[site] > 0 && orbit.add(from % row.length)) {
                from += row[from % row.length];
            }
            if (!orbit.isEmpty()) {
                orbits.add(orbit);
            }
        }
        return orbits.size();
    }

    private static int propsOf(int[] row) {
        return isSound(row) ? Arrays.stream(row).sum() / row.length : NONE;
    }

    int ofRow(int number, int what) {
        int[] row = row(number);
        mustBe(what >= 0 && what <= 9);
        boolean sound = isSound(row);
        switch (what) {
            case 0: return row.length;
            case 1: return sound ? 1 : 0;
            case 2: return propsOf(row);
            case 3: return Arrays.stream(row).max().getAsInt();
            case 4: return (int) Arrays.stream(row).filter(height -> height % 2 == 1).count();
            case 5: return sound ? orbitsOf(row) : NONE;
            case 6: return !sound ? NONE : statesOf(row).size() == row.length ? 1 : 0;
            case 7: return !sound ? NONE : statesOf(row).contains((1 << propsOf(row)) - 1) ? 1 : 0;
            case 8: return periodOf(row);
            default: return sound ? greatestTurn(row) : NONE;
        }
    }

    private static int periodOf(int[] row) {
        int beats = 1;
        while (row.length % beats != 0 || !Arrays.equals(row, shifted(row, beats))) {
            beats++;
        }
        return beats;
    }

    private static int greatestTurn(int[] row) {
        int greatest = 0;
        for (int site = 0; site < row.length; site++) {
            greatest = Math.max(greatest, turnOf(row, site));
        }
        return greatest;
    }

    int ofSite(int number, int site, int what) {
        site(number, site);
        mustBe(what >= 0 && what <= 4);
        int[] row = row(number);
        boolean sound = isSound(row);
        switch (what) {
            case 0: return row[site];
            case 1: return (site + row[site]) % row.length;
            case 2: return sound ? stateOf(row, site) : NONE;
            case 3: return sound ? turnOf(row, site) : NONE;
            default: return sound ? turnOf(row, site) / row.length : NONE;
        }
    }

    String text(int number) {
        StringBuilder text = new StringBuilder();
        for (int height : row(number)) {
            text.append(height);
        }
        return text.toString();
    }

    int ofProp(int prop, int what) {
        if (prop < 0 || prop >= props.size()) {
            throw new IndexOutOfBoundsException();
        }
        mustBe(what >= 0 && what <= 3);
        int[] asked = props.get(prop);
        return what < 3 ? asked[what] : asked[0] == NONE ? NONE : (beat + asked[0]) % 2;
    }

    int many(int what) {
        mustBe(what >= 0 && what <= 9);
        switch (what) {
            case 0: return rows.size();
            case 1: return props.size();
            case 2: return state();
            case 3: return beat;
            case 4: return slips;
            case 5: return (int) props.stream().filter(prop -> prop[0] == NONE).count();
            case 6: return props.stream().mapToInt(prop -> prop[1]).sum();
            case 7: return (int) rows.stream().filter(Model::isSound).count();
            case 8: return at(0);
            default: return beats;
        }
    }

    double tired() {
        return eighths / 8.0;
    }

    double high(int number) {
        int t = Arrays.stream(row(number)).max().getAsInt();
        return t < 2 ? 0.0 : Math.rint(4.0 * (1.225 * (0.25 * t - 0.25) * (0.25 * t - 0.25))) / 4.0;
    }

    int would(int height) {
        mustBe(height >= 0 && height <= 9);
        return behind(state(), height);
    }

    private static int behind(int state, int height) {
        if ((state % 2 == 1) != (height > 0) || height > 0 && (state / (1 << height)) % 2 == 1) {
            return NONE;
        }
        return (state + (height > 0 ? 1 << height : 0)) / 2;
    }

    int way(int number) {
        return wayAndFirst(row(number))[0];
    }

    int first(int number) {
        return wayAndFirst(row(number))[1];
    }

    /** How far it is, and by which THROW first: from the ROW backwards, not from the juggler on. */
    private int[] wayAndFirst(int[] row) {
        if (!isSound(row) || propsOf(row) != Integer.bitCount(state())) {
            return new int[] {NONE, NONE};
        }
        int[] far = new int[512];
        Arrays.fill(far, 1000);
        for (int state : statesOf(row)) {
            far[state] = 0;
        }
        boolean nearer = true;
        while (nearer) {
            nearer = false;
            for (int from = 0; from < 512; from++) {
                for (int height = 0; height <= 9; height++) {
                    int to = behind(from, height);
                    if (to != NONE && far[to] + 1 < far[from]) {
                        far[from] = far[to] + 1;
                        nearer = true;
                    }
                }
            }
        }
        int first = NONE;
        for (int height = 9; height >= 0 && far[state()] > 0; height--) {
            int to = behind(state(), height);
            first = to != NONE && far[to] == far[state()] - 1 ? height : first;
        }
        return new int[] {far[state()], first};
    }

    int count(int length, int wanted) {
        mustBe(length >= 1 && length <= 4 && wanted >= 0 && wanted <= 9);
        int found = 0;
        for (int told = 0; told < Math.round(Math.pow(10, length)); told++) {
            int[] row = new int[length];
            for (int site = 0, digits = told; site < length; site++, digits /= 10) {
                row[site] = digits % 10;
            }
            if (Arrays.stream(row).sum() == wanted * length && isSound(row)) {
                found++;
            }
        }
        return found;
    }

    int alike(int one, int other) {
        int[] wanted = row(other);
        for (int by = 0; by <= 7; by++) {
            if (Arrays.equals(shifted(row(one), by), wanted)) {
                return by;
            }
        }
        return NONE;
    }

    long digest() {
        List<Integer> numbers = new ArrayList<>();
        for (int what = 0; what <= 9; what++) {
            numbers.add(many(what));
        }
        for (int row = 0; row < rows.size(); row++) {
            for (int what = 0; what <= 9; what++) {
                numbers.add(ofRow(row, what));
            }
            for (int site = 0; site < ofRow(row, 0); site++) {
                for (int what = 0; what <= 4; what++) {
                    numbers.add(ofSite(row, site, what));
                }
            }
            int[] way = wayAndFirst(row(row));
            numbers.add(way[0]);
            numbers.add(way[1]);
        }
        for (int prop = 0; prop < props.size(); prop++) {
            for (int what = 0; what <= 3; what++) {
                numbers.add(ofProp(prop, what));
            }
        }
        for (int height = 0; height <= 9; height++) {
            numbers.add(would(height));
        }
        numbers.add(eighths);
        long sum = 58305;
        for (int number : numbers) {
            sum = sum * 31 + number;
        }
        return sum;
    }
}
