import java.util.Arrays;

/** Juggling by numbers: rows of throws, a juggler who throws by them, and what would be. */
public final class Cascadecourt {
    private static final int NONE = -1;
    private static final int MOST_ROWS = 8;
    private static final int MOST_SITES = 8;
    private static final int HIGHEST = 9;
    private static final int MOST_PROPS = 6;
    private static final int ALL_STATES = 512;
    private static final int MOST_BEATS = 30;
    private static final int LONGEST_COUNTED = 4;
    private static final long DIGEST_START = 58305L;
    private static final long DIGEST_FACTOR = 31L;

    private final Row[] rows;
    private final Juggler juggler;
    private final Ways ways;
    private int rowsTold;

    public Cascadecourt() {
        rows = new Row[MOST_ROWS];
        juggler = new Juggler();
        ways = new Ways();
        rowsTold = 0;
    }

    // ---- rows

    public int tell(int throwsTold, int length) throws IllegalArgumentException, IllegalStateException {
        if (throwsTold < 0 || !isWithin(length, 1, MOST_SITES) || throwsTold >= firstNumberLongerThan(length)) {
            throw new IllegalArgumentException("no such throws");
        }
        if (!isWithin(rowsTold, 0, rows.length - 1)) {
            throw new IllegalStateException("there are 8 rows");
        }
        int number = rowsTold;
        rows[number] = new Row(throwsTold, length);
        rowsTold = number + 1;
        return number;
    }

    public boolean shift(int row, int by) throws IndexOutOfBoundsException, IllegalArgumentException {
        Row told = rowNumbered(row);
        if (told == null) {
            throw new IndexOutOfBoundsException("no such row");
        }
        if (!isWithin(by, 0, MOST_SITES - 1)) {
            throw new IllegalArgumentException("no such shift");
        }
        return told.moveSites(by);
    }

    public int swap(int row, int one, int other)
            throws IndexOutOfBoundsException, IllegalArgumentException, IllegalStateException {
        Row told = rowNumbered(row);
        if (told == null || !told.hasSite(one) || !told.hasSite(other)) {
            throw new IndexOutOfBoundsException("no such row or site");
        }
        if (one == other) {
            throw new IllegalArgumentException("both sites are the same");
        }
        int low = Math.min(one, other);
        int high = Math.max(one, other);
        int lowThrow = told.throwAt(high) + (high - low);
        int highThrow = told.throwAt(low) - (high - low);
        if (!isThrow(lowThrow) || !isThrow(highThrow)) {
            throw new IllegalStateException("a throw would not be 0 to 9");
        }
        told.putThrows(low, lowThrow, high, highThrow);
        return lowThrow;
    }

    public int raise(int row, int by)
            throws IndexOutOfBoundsException, IllegalArgumentException, IllegalStateException {
        Row told = rowNumbered(row);
        if (told == null) {
            throw new IndexOutOfBoundsException("no such row");
        }
        if (!isWithin(by, -HIGHEST, HIGHEST)) {
            throw new IllegalArgumentException("no such height");
        }
        if (!isThrow(told.lowestThrow() + by) || !isThrow(told.highestThrow() + by)) {
            throw new IllegalStateException("a throw would not be 0 to 9");
        }
        told.addToThrows(by);
        return told.sumOfThrows();
    }

    public boolean turn(int row) throws IndexOutOfBoundsException, IllegalStateException {
        Row told = rowNumbered(row);
        if (told == null) {
            throw new IndexOutOfBoundsException("no such row");
        }
        if (!told.isSound()) {
            throw new IllegalStateException("the row is not sound");
        }
        return told.reverseTime();
    }

    public int join(int first, int second) throws IndexOutOfBoundsException, IllegalStateException {
        Row longer = rowNumbered(first);
        Row behind = rowNumbered(second);
        if (longer == null || behind == null) {
            throw new IndexOutOfBoundsException("no such row");
        }
        if (longer.length() + behind.length() > MOST_SITES) {
            throw new IllegalStateException("the row would be too long");
        }
        longer.append(behind);
        return longer.length();
    }

    // ---- the juggler

    public int take(int props) throws IllegalArgumentException {
        if (!isWithin(props, 1, MOST_PROPS)) {
            throw new IllegalArgumentException("props are 1 to 6");
        }
        juggler.startWith(props);
        return juggler.state();
    }

    public int toss(int height) throws IllegalArgumentException {
        if (!isThrow(height)) {
            throw new IllegalArgumentException("a throw is 0 to 9");
        }
        return juggler.throwNow(height);
    }

    public int run(int row, int site, int beats) throws IndexOutOfBoundsException, IllegalArgumentException {
        Row told = rowNumbered(row);
        if (told == null || !told.hasSite(site)) {
            throw new IndexOutOfBoundsException("no such row or site");
        }
        if (!isWithin(beats, 1, MOST_BEATS)) {
            throw new IllegalArgumentException("beats are 1 to 30");
        }
        int slipsBefore = juggler.slipsEver();
        for (int beat = 0; beat < beats; beat++) {
            juggler.throwNow(told.throwAt(site + beat));
        }
        return juggler.slipsEver() - slipsBefore;
    }

    public int pick() {
        return juggler.pickUp();
    }

    // ---- what is asked

    public int ofRow(int row, int what) throws IndexOutOfBoundsException, IllegalArgumentException {
        Row told = rowNumbered(row);
        if (told == null) {
            throw new IndexOutOfBoundsException("no such row");
        }
        if (!isWithin(what, 0, 9)) {
            throw new IllegalArgumentException("no such question");
        }
        return told.answer(what);
    }

    public int ofSite(int row, int site, int what) throws IndexOutOfBoundsException, IllegalArgumentException {
        Row told = rowNumbered(row);
        if (told == null || !told.hasSite(site)) {
            throw new IndexOutOfBoundsException("no such row or site");
        }
        if (!isWithin(what, 0, 4)) {
            throw new IllegalArgumentException("no such question");
        }
        return told.answerAt(site, what);
    }

    public String text(int row) throws IndexOutOfBoundsException {
        Row told = rowNumbered(row);
        if (told == null) {
            throw new IndexOutOfBoundsException("no such row");
        }
        return told.digits();
    }

    public int ofProp(int prop, int what) throws IndexOutOfBoundsException, IllegalArgumentException {
        if (!juggler.hasProp(prop)) {
            throw new IndexOutOfBoundsException("no such prop");
        }
        if (!isWithin(what, 0, 3)) {
            throw new IllegalArgumentException("no such question");
        }
        return juggler.answerOf(prop, what);
    }

    public int many(int what) throws IllegalArgumentException {
        if (!isWithin(what, 0, 9)) {
            throw new IllegalArgumentException("no such question");
        }
        return howMany(what);
    }

    public double tired() {
        return juggler.tiredness();
    }

    public double high(int row) throws IndexOutOfBoundsException {
        Row told = rowNumbered(row);
        if (told == null) {
            throw new IndexOutOfBoundsException("no such row");
        }
        return metresOf(told.highestThrow());
    }

    // ---- what would be (nothing is changed)

    public int would(int height) throws IllegalArgumentException {
        if (!isThrow(height)) {
            throw new IllegalArgumentException("a throw is 0 to 9");
        }
        return stateBehind(juggler.state(), height);
    }

    public int way(int row) throws IndexOutOfBoundsException {
        Row told = rowNumbered(row);
        if (told == null) {
            throw new IndexOutOfBoundsException("no such row");
        }
        return stepsInto(told);
    }

    public int first(int row) throws IndexOutOfBoundsException {
        Row told = rowNumbered(row);
        if (told == null) {
            throw new IndexOutOfBoundsException("no such row");
        }
        return firstThrowInto(told);
    }

    public int count(int length, int props) throws IllegalArgumentException {
        if (!isWithin(length, 1, LONGEST_COUNTED) || !isWithin(props, 0, HIGHEST)) {
            throw new IllegalArgumentException("no such length or props");
        }
        return soundRowsFrom(0, length, 0, length * props);
    }

    public int alike(int one, int other) throws IndexOutOfBoundsException {
        Row shifted = rowNumbered(one);
        Row wanted = rowNumbered(other);
        if (shifted == null || wanted == null) {
            throw new IndexOutOfBoundsException("no such row");
        }
        for (int by = 0; by < MOST_SITES; by++) {
            if (shifted.isShiftedTo(wanted, by)) {
                return by;
            }
        }
        return NONE;
    }

    public long digest() {
        long sum = DIGEST_START;
        for (int what = 0; what <= 9; what++) {
            sum = sum * DIGEST_FACTOR + howMany(what);
        }
        for (int number = 0; number < rowsTold; number++) {
            sum = addRow(sum, rowNumbered(number));
        }
        for (int prop = 0; prop < juggler.props(); prop++) {
            for (int what = 0; what <= 3; what++) {
                sum = sum * DIGEST_FACTOR + juggler.answerOf(prop, what);
            }
        }
        for (int height = 0; height <= HIGHEST; height++) {
            sum = sum * DIGEST_FACTOR + stateBehind(juggler.state(), height);
        }
        return sum * DIGEST_FACTOR + (long) (8.0 * juggler.tiredness());
    }

    // ---- what these share

    private static boolean isWithin(int number, int least, int most) {
        return number >= least && number <= most;
    }

    private static boolean isThrow(int height) {
        return isWithin(height, 0, HIGHEST);
    }

    private static int firstNumberLongerThan(int digits) {
        int number = 1;
        for (int digit = 0; digit < digits && digit < MOST_SITES; digit++) {
            number *= 10;
        }
        return number;
    }

    // Cells are read and written here alone, so that no index is ever used untested.
    private static int cell(int[] cells, int index) {
        return index >= 0 && index < cells.length ? cells[index] : 0;
    }

    private static void setCell(int[] cells, int index, int value) {
        if (index >= 0 && index < cells.length) {
            cells[index] = value;
        }
    }

    /** The ROW of that number; null if there is none. */
    private Row rowNumbered(int number) {
        return number >= 0 && number < rowsTold && number < rows.length ? rows[number] : null;
    }

    private int howMany(int what) {
        switch (what) {
            case 0:
                return rowsTold;
            case 1:
                return juggler.props();
            case 2:
                return juggler.state();
            case 3:
                return juggler.beat();
            case 4:
                return juggler.slipsEver();
            case 5:
                return juggler.droppedProps();
            case 6:
                return juggler.flightsOfAll();
            case 7:
                return soundRows();
            case 8:
                return juggler.propLandingIn(0);
            default:
                return juggler.beatsEver();
        }
    }

    private int soundRows() {
        int sound = 0;
        for (int number = 0; number < rowsTold; number++) {
            Row told = rowNumbered(number);
            if (told != null && told.isSound()) {
                sound++;
            }
        }
        return sound;
    }

    private long addRow(long sumBefore, Row told) {
        if (told == null) {
            return sumBefore;
        }
        long sum = sumBefore;
        for (int what = 0; what <= 9; what++) {
            sum = sum * DIGEST_FACTOR + told.answer(what);
        }
        for (int site = 0; site < told.length(); site++) {
            for (int what = 0; what <= 4; what++) {
                sum = sum * DIGEST_FACTOR + told.answerAt(site, what);
            }
        }
        sum = sum * DIGEST_FACTOR + stepsInto(told);
        return sum * DIGEST_FACTOR + firstThrowInto(told);
    }

    private static double metresOf(int height) {
        if (height < 2) {
            return 0.0;
        }
        double exact = 1.225 * (0.25 * height - 0.25) * (0.25 * height - 0.25);
        return nearestWhole(4.0 * exact) / 4.0;
    }

    private static double nearestWhole(double number) {
        long below = (long) number;
        double rest = number - (double) below;
        boolean up = rest > 0.5 || (rest == 0.5 && below % 2 != 0);
        return (double) (up ? below + 1 : below);
    }

    /** The STATE a beat after that one, by a THROW; NONE if that is not let. */
    private static int stateBehind(int state, int height) {
        boolean lands = (state & 1) != 0;
        if (height == 0) {
            return lands ? NONE : state >> 1;
        }
        boolean meets = ((state >> height) & 1) != 0;
        return !lands || meets ? NONE : (state >> 1) | (1 << (height - 1));
    }

    private int stepsInto(Row told) {
        int state = juggler.state();
        // This keeps out a ROW that is not SOUND, too: its PROPS are NONE.
        if (told.props() != Integer.bitCount(state)) {
            return NONE;
        }
        ways.lookFrom(state);
        int fewest = NONE;
        for (int site = 0; site < told.length(); site++) {
            int steps = ways.stepsTo(told.stateAt(site));
            if (steps != NONE && (fewest == NONE || steps < fewest)) {
                fewest = steps;
            }
        }
        return fewest;
    }

    private int firstThrowInto(Row told) {
        int fewest = stepsInto(told);
        if (fewest == NONE || fewest == 0) {
            return NONE;
        }
        int smallest = NONE;
        for (int site = 0; site < told.length(); site++) {
            int state = told.stateAt(site);
            if (ways.stepsTo(state) == fewest && (smallest == NONE || ways.firstThrowTo(state) < smallest)) {
                smallest = ways.firstThrowTo(state);
            }
        }
        return smallest;
    }

    /** How many lists of THROWS from that SITE on make a SOUND ROW, if the sum of them is still due. */
    private static int soundRowsFrom(int site, int length, int landed, int due) {
        if (site >= length || length < 1) {
            return due == 0 ? 1 : 0;
        }
        int found = 0;
        for (int height = 0; height <= HIGHEST && height <= due; height++) {
            int landing = 1 << ((site + height) % length);
            if ((landed & landing) == 0) {
                found += soundRowsFrom(site + 1, length, landed | landing, due - height);
            }
        }
        return found;
    }

    /** THROWS that go on again and again. */
    private static final class Row {
        private final int[] heights = new int[MOST_SITES];
        private final int[] work = new int[MOST_SITES];
        // What follows from the THROWS is kept SITE by SITE, as it is asked more often than they change.
        private final int[] landings = new int[MOST_SITES];
        private final int[] turns = new int[MOST_SITES];
        private final int[] states = new int[MOST_SITES];
        private int length;
        private boolean sound;

        Row(int throwsTold, int sites) {
            length = sites;
            int digits = throwsTold;
            for (int site = sites - 1; site >= 0; site--) {
                setCell(heights, site, digits % 10);
                digits /= 10;
            }
            settle();
        }

        int length() {
            return length;
        }

        boolean hasSite(int site) {
            return site >= 0 && site < length;
        }

        boolean isSound() {
            return sound;
        }

        int siteOf(int beat) {
            return length > 0 ? Math.floorMod(beat, length) : 0;
        }

        int throwAt(int beat) {
            return cell(heights, siteOf(beat));
        }

        /** The STATE at that SITE (of a SOUND ROW). */
        int stateAt(int site) {
            return cell(states, site);
        }

        boolean moveSites(int by) {
            for (int site = 0; site < length; site++) {
                setCell(work, site, throwAt(site + by));
            }
            return adoptWork();
        }

        boolean reverseTime() {
            for (int site = 0; site < length; site++) {
                int height = cell(heights, site);
                setCell(work, siteOf(-(site + height)), height);
            }
            return adoptWork();
        }

        private boolean adoptWork() {
            boolean differs = false;
            for (int site = 0; site < length; site++) {
                int height = cell(work, site);
                differs = differs || height != cell(heights, site);
                setCell(heights, site, height);
            }
            settle();
            return differs;
        }

        void putThrows(int one, int heightOfOne, int other, int heightOfOther) {
            setCell(heights, one, heightOfOne);
            setCell(heights, other, heightOfOther);
            settle();
        }

        void addToThrows(int by) {
            for (int site = 0; site < length; site++) {
                setCell(heights, site, cell(heights, site) + by);
            }
            settle();
        }

        void append(Row behind) {
            // The other one may be this one, so LENGTH stays till all THROWS are read.
            int added = behind.length;
            for (int site = 0; site < added; site++) {
                setCell(heights, length + site, cell(behind.heights, site));
            }
            length += added;
            settle();
        }

        private void settle() {
            int landed = 0;
            for (int site = 0; site < length; site++) {
                int landing = siteOf(site + cell(heights, site));
                setCell(landings, site, landing);
                landed |= 1 << landing;
            }
            sound = Integer.bitCount(landed) == length;
            for (int site = 0; site < length; site++) {
                setCell(turns, site, turnFrom(site));
                setCell(states, site, stateBefore(site));
            }
        }

        private int turnFrom(int start) {
            int sum = 0;
            int site = start;
            for (int step = 0; step < length; step++) {
                sum += cell(heights, site);
                site = cell(landings, site);
                if (site == start) {
                    return sum;
                }
            }
            return sum;
        }

        private int stateBefore(int site) {
            int state = 0;
            for (int ago = 1; ago <= HIGHEST; ago++) {
                int ahead = throwAt(site - ago) - ago;
                if (ahead >= 0) {
                    state |= 1 << ahead;
                }
            }
            return state;
        }

        int answer(int what) {
            switch (what) {
                case 0:
                    return length;
                case 1:
                    return sound ? 1 : 0;
                case 2:
                    return props();
                case 3:
                    return highestThrow();
                case 4:
                    return crossingThrows();
                case 5:
                    return sound ? orbits() : NONE;
                case 6:
                    return sound ? oneIfPrime() : NONE;
                case 7:
                    return sound ? oneIfGround() : NONE;
                case 8:
                    return period();
                default:
                    return sound ? greatestTurn() : NONE;
            }
        }

        int answerAt(int site, int what) {
            switch (what) {
                case 0:
                    return cell(heights, site);
                case 1:
                    return cell(landings, site);
                case 2:
                    return sound ? stateAt(site) : NONE;
                case 3:
                    return sound ? cell(turns, site) : NONE;
                default:
                    return sound && length > 0 ? cell(turns, site) / length : NONE;
            }
        }

        int props() {
            return sound && length > 0 ? sumOfThrows() / length : NONE;
        }

        int sumOfThrows() {
            int sum = 0;
            for (int site = 0; site < length; site++) {
                sum += cell(heights, site);
            }
            return sum;
        }

        int highestThrow() {
            int highest = 0;
            for (int site = 0; site < length; site++) {
                highest = Math.max(highest, cell(heights, site));
            }
            return highest;
        }

        int lowestThrow() {
            int lowest = HIGHEST;
            for (int site = 0; site < length; site++) {
                lowest = Math.min(lowest, cell(heights, site));
            }
            return lowest;
        }

        private int crossingThrows() {
            int crossing = 0;
            for (int site = 0; site < length; site++) {
                crossing += cell(heights, site) % 2;
            }
            return crossing;
        }

        private int period() {
            for (int by = 1; by < length; by++) {
                if (isShiftedTo(this, by)) {
                    return by;
                }
            }
            return length;
        }

        boolean isShiftedTo(Row wanted, int by) {
            if (length != wanted.length) {
                return false;
            }
            for (int site = 0; site < length; site++) {
                if (throwAt(site + by) != cell(wanted.heights, site)) {
                    return false;
                }
            }
            return true;
        }

        private int orbits() {
            int found = 0;
            for (int site = 0; site < length; site++) {
                if (cell(heights, site) > 0 && isFirstOfOrbit(site)) {
                    found++;
                }
            }
            return found;
        }

        private boolean isFirstOfOrbit(int start) {
            int site = start;
            for (int step = 0; step < length; step++) {
                site = cell(landings, site);
                if (site < start) {
                    return false;
                }
            }
            return true;
        }

        private int greatestTurn() {
            int greatest = 0;
            for (int site = 0; site < length; site++) {
                greatest = Math.max(greatest, cell(turns, site));
            }
            return greatest;
        }

        private int oneIfPrime() {
            for (int site = 0; site < length; site++) {
                for (int earlier = 0; earlier < site; earlier++) {
                    if (stateAt(site) == stateAt(earlier)) {
                        return 0;
                    }
                }
            }
            return 1;
        }

        private int oneIfGround() {
            int ground = (1 << props()) - 1;
            for (int site = 0; site < length; site++) {
                if (stateAt(site) == ground) {
                    return 1;
                }
            }
            return 0;
        }

        String digits() {
            StringBuilder shown = new StringBuilder();
            for (int site = 0; site < length; site++) {
                shown.append((char) ('0' + cell(heights, site)));
            }
            return shown.toString();
        }
    }

    /** Who throws props, beat by beat. */
    private static final class Juggler {
        private final int[] landsAt = new int[MOST_PROPS];
        private final int[] flights = new int[MOST_PROPS];
        private final int[] drops = new int[MOST_PROPS];
        private int props;
        private int beat;
        private int slipsEver;
        private int beatsEver;
        private double tiredness;

        void startWith(int taken) {
            props = taken;
            beat = 0;
            tiredness = 0.0;
            for (int prop = 0; prop < props; prop++) {
                setCell(landsAt, prop, prop);
                setCell(flights, prop, 0);
                setCell(drops, prop, 0);
            }
        }

        int props() {
            return props;
        }

        boolean hasProp(int prop) {
            return prop >= 0 && prop < props;
        }

        int beat() {
            return beat;
        }

        int slipsEver() {
            return slipsEver;
        }

        int beatsEver() {
            return beatsEver;
        }

        double tiredness() {
            return tiredness;
        }

        private boolean isDropped(int prop) {
            return cell(landsAt, prop) == NONE;
        }

        private int beatsTillLanding(int prop) {
            int landing = cell(landsAt, prop);
            return landing == NONE ? NONE : landing - beat;
        }

        private int handOf(int prop) {
            return isDropped(prop) ? NONE : cell(landsAt, prop) & 1;
        }

        int state() {
            int state = 0;
            for (int prop = 0; prop < props; prop++) {
                int beats = beatsTillLanding(prop);
                if (beats != NONE) {
                    state |= 1 << beats;
                }
            }
            return state;
        }

        /** The prop that is to land that many beats from now; NONE without one. */
        int propLandingIn(int beats) {
            for (int prop = 0; prop < props; prop++) {
                if (beatsTillLanding(prop) == beats) {
                    return prop;
                }
            }
            return NONE;
        }

        int droppedProps() {
            int dropped = 0;
            for (int prop = 0; prop < props; prop++) {
                if (isDropped(prop)) {
                    dropped++;
                }
            }
            return dropped;
        }

        int flightsOfAll() {
            int sum = 0;
            for (int prop = 0; prop < props; prop++) {
                sum += cell(flights, prop);
            }
            return sum;
        }

        int answerOf(int prop, int what) {
            switch (what) {
                case 0:
                    return beatsTillLanding(prop);
                case 1:
                    return cell(flights, prop);
                case 2:
                    return cell(drops, prop);
                default:
                    return handOf(prop);
            }
        }

        /** A THROW by hand, and the beat that goes by; the prop that was thrown, NONE without one. */
        int throwNow(int height) {
            int thrown = NONE;
            if (stateBehind(state(), height) == NONE) {
                slip(height);
            } else {
                thrown = propLandingIn(0);
                sendUp(thrown, height);
            }
            tire(thrown, height);
            beat++;
            beatsEver++;
            return thrown;
        }

        private void sendUp(int prop, int height) {
            if (prop != NONE) {
                setCell(landsAt, prop, beat + height);
                setCell(flights, prop, cell(flights, prop) + 1);
            }
        }

        private void slip(int height) {
            int landing = propLandingIn(0);
            int met = height > 0 ? propLandingIn(height) : NONE;
            slipsEver++;
            // Without a prop that lands there is nothing to throw, and so nothing that is met.
            if (landing != NONE) {
                dropProp(landing);
                dropProp(met);
            }
        }

        private void dropProp(int prop) {
            if (prop != NONE) {
                setCell(landsAt, prop, NONE);
                setCell(drops, prop, cell(drops, prop) + 1);
            }
        }

        private void tire(int thrown, int height) {
            double then = thrown == NONE ? tiredness - 0.25 : tiredness + height * 0.125;
            tiredness = then < 0.0 ? 0.0 : then;
        }

        int pickUp() {
            if (propLandingIn(0) != NONE) {
                return NONE;
            }
            for (int prop = 0; prop < props; prop++) {
                if (isDropped(prop)) {
                    setCell(landsAt, prop, beat);
                    return prop;
                }
            }
            return NONE;
        }
    }

    /** The shortest ways from one STATE to each other one. */
    private static final class Ways {
        private final int[] steps = new int[ALL_STATES];
        private final int[] firstThrows = new int[ALL_STATES];
        private final int[] waiting = new int[ALL_STATES];
        // The digest asks from one STATE for every ROW twice: what was found for it last is kept.
        private int start = NONE;

        int stepsTo(int state) {
            return cell(steps, state);
        }

        int firstThrowTo(int state) {
            return cell(firstThrows, state);
        }

        void lookFrom(int state) {
            if (state == start) {
                return;
            }
            start = state;
            Arrays.fill(steps, NONE);
            setCell(steps, state, 0);
            setCell(firstThrows, state, NONE);
            setCell(waiting, 0, state);
            int found = 1;
            for (int next = 0; next < found && next < ALL_STATES; next++) {
                found = lookOnFrom(cell(waiting, next), found);
            }
        }

        // The smaller first THROW always waits ahead, so the way that is found first is the one asked for.
        private int lookOnFrom(int state, int foundBefore) {
            int found = foundBefore;
            for (int height = 0; height <= HIGHEST; height++) {
                int behind = stateBehind(state, height);
                if (behind != NONE && cell(steps, behind) == NONE) {
                    setCell(steps, behind, cell(steps, state) + 1);
                    setCell(firstThrows, behind, state == start ? height : cell(firstThrows, state));
                    setCell(waiting, found, behind);
                    found++;
                }
            }
            return found;
        }
    }
}
