/** The boundary cases that the Terms of the document name: a test for each sentence. */
public final class TermsEdgesTest {
    private static final String ROWS = "Terms, 1 ROWS";
    private static final String STATES = "Terms, 2 STATES";
    private static final String JUGGLER = "Terms, 3 THE JUGGLER";
    private static final String EXCEPTIONS = "Terms, below them";

    public static void main(String[] args) {
        calls();
        none();
        rows();
        states();
        juggler();
        exceptions();
        Check.end("TermsEdgesTest");
    }

    private static void rows() {
        howManyRowsAndThrows();
        rowGoesOn();
        throwLands();
        sound();
        props();
        crosses();
        orbits();
        turnOfOrbit();
    }

    private static void states() {
        numbersOfState();
        throwsThatAreLet();
        stateBehindTheBeat();
        ground();
        stateOfRow();
        prime();
        groundRow();
    }

    private static void juggler() {
        beatAtFirst();
        take();
        beforeTake();
        thrown();
        slip();
        droppedByNone();
        droppedByMeeting();
        droppedByNothing();
        beatInEachCase();
        pickedUp();
        run();
        tiredAtFirst();
        tired();
    }

    private static void exceptions() {
        changesNothing();
        firstOfSeveral();
        firstOfSeveralAboutSites();
    }

    private static void calls() {
        Check.sentence("What it is", "An object is used for at most 512 calls after it has been made");
        Cascadecourt court = new Cascadecourt();
        court.tell(1, 1);
        court.take(1);
        for (int call = 3; call <= 509; call++) {
            Check.that("call " + call, 0, court.run(0, 0, 30));
        }
        Check.that("call 510, beats ever", 507 * 30, court.many(9));
        Check.that("call 511, FLIGHTS", 507 * 30, court.ofProp(0, 1));
        Check.that("call 512, tired", 507 * 30 * 0.125, court.tired());
        Cascadecourt slips = Courts.with("9");
        for (int call = 2; call <= 511; call++) {
            Check.that("call " + call, 30, slips.run(0, 0, 30));
        }
        Check.that("call 512, SLIPS ever", 510 * 30, slips.many(4));
    }

    private static void none() {
        Check.sentence("Terms", "NONE is -1.");
        Cascadecourt court = Courts.with("21");
        Check.that("the prop that lands now", -1, court.many(8));
        Check.that("pick()", -1, court.pick());
        Check.that("PROPS of one that is not SOUND", -1, court.ofRow(0, 2));
        Check.that("way() into it", -1, court.way(0));
    }

    private static void howManyRowsAndThrows() {
        Check.sentence(ROWS, "at most 8, numbered from 0, each of 1 to 8 THROWS (0 to 9 each), in SITES from 0 on.");
        Cascadecourt court = new Cascadecourt();
        for (int row = 0; row < 8; row++) {
            Check.that("the number of the ROW", row, court.tell(row, 1));
        }
        Check.fails("a ninth ROW", Check.STATE, court, () -> court.tell(8, 1));
        Check.that("ROWS", 8, court.many(0));
        Cascadecourt lengths = Courts.with("9", "00000000", "99999999");
        Check.that("LENGTH of 1", 1, lengths.ofRow(0, 0));
        Check.that("LENGTH of 8", 8, lengths.ofRow(1, 0));
        Check.fails("LENGTH of 0", Check.ARGUMENT, lengths, () -> lengths.tell(0, 0));
        Check.fails("LENGTH of 9", Check.ARGUMENT, lengths, () -> lengths.tell(0, 9));
        Check.that("THROW of 0, SITE 0", 0, lengths.ofSite(1, 0, 0));
        Check.that("THROW of 9, SITE 7", 9, lengths.ofSite(2, 7, 0));
        Check.fails("SITE -1", Check.INDEX, lengths, () -> lengths.ofSite(2, -1, 0));
        Check.fails("SITE 8", Check.INDEX, lengths, () -> lengths.ofSite(2, 8, 0));
        Check.fails("SITE 1 of one", Check.INDEX, lengths, () -> lengths.ofSite(0, 1, 0));
    }

    private static void rowGoesOn() {
        Check.sentence(ROWS, "the THROW of the beat b is that of the SITE b modulo its LENGTH");
        Cascadecourt court = Courts.with("80000000", "1", "4413441");
        court.take(1);
        Check.that("80000000 from SITE 0", 0, court.run(0, 0, 30));
        court.take(1);
        // The 0 of SITE 7 drops the prop; the 8 of SITE 0 finds none at the beats 1, 9, 17 and 25.
        Check.that("80000000 from SITE 7", 5, court.run(0, 7, 30));
        court.take(1);
        Check.that("1 for 30 beats", 0, court.run(1, 0, 30));
        Check.that("1 for 30 beats: FLIGHTS", 30, court.ofProp(0, 1));
        court.take(3);
        Check.that("4413441 for 30 beats", 0, court.run(2, 0, 30));
        Check.that("4413441: the STATE at SITE 2", 13, court.many(2));
        court.take(3);
        Check.that("4413441 from SITE 4, over the end", 0, court.run(2, 4, 4));
        Check.that("4413441: the STATE at SITE 1", 11, court.many(2));
    }

    private static void throwLands() {
        Check.sentence(ROWS, "A THROW t at the beat b lands at the beat b and t; 0 is none (the hand is empty).");
        Cascadecourt court = Courts.thrown(1, 9);
        for (int beat = 1; beat < 9; beat++) {
            Check.that("none lands at the beat " + beat, -1, court.many(8));
            Check.that("0 at the beat " + beat, -1, court.toss(0));
        }
        Check.that("9 at the beat 0 lands at the beat 9", 0, court.many(8));
        Check.that("0 is no FLIGHT", 1, court.many(6));
        Check.that("0 is no SLIP", 0, court.many(4));
        Check.that("1 at the beat 9", 0, court.toss(1));
        Check.that("1 at the beat 9 lands at the beat 10", 0, court.many(8));
    }

    private static void sound() {
        Check.sentence(ROWS, "SITE and THROW, modulo LENGTH, are all different");
        Answers.ofRows(1, "0", 1, "1", 1, "9", 1, "10", 0, "09", 0, "18", 0, "19", 1, "20", 1, "321", 0,
                "80000000", 1, "90000000", 0, "00000008", 1, "00000009", 0, "70000001", 1, "00000000", 1,
                "99999999", 1, "99999998", 0, "89999999", 0);
    }

    private static void props() {
        Check.sentence(ROWS, "Its PROPS are the sum of THROWS divided by LENGTH (NONE of one that is not SOUND).");
        // The sums of 321 and 3450 can be divided by LENGTH, and still they are not SOUND.
        Answers.ofRows(2, "0", 0, "00000000", 0, "80000000", 1, "9", 9, "99999999", 9, "321", -1, "3450", -1, "10", -1,
                "90000000", -1);
    }

    private static void crosses() {
        Check.sentence(ROWS, "The right hand throws at even beats, the left one at odd beats; "
                + "a THROW CROSSES, if it is odd.");
        Answers.ofRows(4, "0", 0, "1", 1, "8", 0, "9", 1, "00000000", 0, "99999999", 8, "02468", 0, "13579", 5,
                "00000001", 1, "10000000", 1);
        Cascadecourt court = Courts.thrown(6);
        for (int prop = 0; prop < 6; prop++) {
            Check.that("the hand at the beat " + prop, prop % 2, court.ofProp(prop, 3));
        }
    }

    private static void orbits() {
        Check.sentence(ROWS, "from a SITE with a THROW above 0 one comes to that at which it lands (modulo LENGTH), "
                + "and so on, till the first one; each SITE with a THROW above 0 is in one ORBIT.");
        Answers.ofRows(5, "0", 0, "00000000", 0, "1", 1, "80000000", 1, "08000000", 1, "88888888", 8, "11111111", 1,
                "99999999", 1, "70000001", 1, "19", 1, "20", 1, "31", 1, "22", 2, "24", 2, "0110", -1, "321", -1);
    }

    private static void turnOfOrbit() {
        Check.sentence(ROWS, "Its TURN is the sum of its THROWS (how many beats till that is again), "
                + "its PROPS that divided by LENGTH.");
        Answers.ofSites("70000001", 3, 8, 0, 0, 0, 0, 0, 0, 8);
        Answers.ofSites("70000001", 4, 1, 0, 0, 0, 0, 0, 0, 1);
        Answers.ofSites("99999999", 3, 72, 72, 72, 72, 72, 72, 72, 72);
        Answers.ofSites("99999999", 4, 9, 9, 9, 9, 9, 9, 9, 9);
        Answers.ofSites("88888888", 3, 8, 8, 8, 8, 8, 8, 8, 8);
        Answers.ofSites("88888888", 4, 1, 1, 1, 1, 1, 1, 1, 1);
        Answers.ofSites("9", 3, 9);
        Answers.ofSites("9", 4, 9);
        Answers.ofSites("0", 3, 0);
        Answers.ofSites("0", 4, 0);
        Answers.ofSites("28", 3, 2, 8);
        Answers.ofSites("28", 4, 1, 4);
    }

    private static void numbersOfState() {
        Check.sentence(STATES, "the set (the sum of 2^k) of all k of 0 to 8 "
                + "for which a prop is to land k beats from now");
        Check.that("no prop", 0, new Cascadecourt().many(2));
        Check.that("0 alone", 1, Courts.thrown(1).many(2));
        Check.that("8 alone", 256, Courts.thrown(1, 9).many(2));
        Check.that("0 and 8", 257, Courts.thrown(2, 9).many(2));
        // Six props at the beats 9 to 14, six beats behind the first one.
        Check.that("3 to 8", 504, Courts.thrown(6, 9, 9, 9, 9, 9, 9).many(2));
        Answers.ofSites("9", 2, 511);
    }

    private static void wouldBe(Cascadecourt court, int... due) {
        for (int height = 0; height < due.length; height++) {
            Check.that("would(" + height + ") in the STATE " + court.many(2), due[height], court.would(height));
        }
    }

    private static void throwsThatAreLet() {
        Check.sentence(STATES, "if 0 is in the STATE, it is 1 to 9, and t is not in the STATE "
                + "(no other prop is to land then); otherwise it is 0");
        wouldBe(new Cascadecourt(), 0, -1, -1, -1, -1, -1, -1, -1, -1, -1);
        wouldBe(Courts.thrown(1), -1, 1, 2, 4, 8, 16, 32, 64, 128, 256);
        wouldBe(Courts.thrown(1, 9), 128, -1, -1, -1, -1, -1, -1, -1, -1, -1);
        wouldBe(Courts.thrown(2, 9), -1, 129, 130, 132, 136, 144, 160, 192, -1, 384);
        wouldBe(Courts.thrown(6), -1, -1, -1, -1, -1, -1, 63, 95, 159, 287);
    }

    private static void stateBehindTheBeat() {
        Check.sentence(STATES, "each number is 1 less (0 is gone); with a THROW above 0, t - 1 is in it, too");
        Cascadecourt court = Courts.thrown(1, 9);
        for (int state = 256; state > 1; state /= 2) {
            Check.that("the STATE with one number", state, court.many(2));
            court.toss(0);
        }
        Check.that("the STATE of 0", 1, court.many(2));
        court.toss(1);
        Check.that("1 - 1 is in it", 1, court.many(2));
        court.toss(9);
        Check.that("9 - 1 is in it", 256, court.many(2));
        Cascadecourt without = new Cascadecourt();
        without.toss(0);
        Check.that("without any number", 0, without.many(2));
    }

    private static void ground() {
        Check.sentence(STATES, "The GROUND of n is the STATE of 0 to n - 1 (0 of 0).");
        int[] grounds = {0, 1, 3, 7, 15, 31, 63, 127, 255, 511};
        for (int props = 1; props <= 6; props++) {
            Check.that("take(" + props + ")", grounds[props], new Cascadecourt().take(props));
        }
        for (int props = 0; props <= 9; props++) {
            Cascadecourt court = Courts.with("" + props);
            Check.that("the STATE of " + props, grounds[props], court.ofSite(0, 0, 2));
            Check.that("GROUND ROW " + props, 1, court.ofRow(0, 7));
        }
    }

    private static void stateOfRow() {
        Check.sentence(STATES, "k is in it, if one of the THROWS ahead (it goes on without a beginning) "
                + "lands k beats behind that SITE, and was thrown ahead of it.");
        Answers.ofSites("0", 2, 0);
        Answers.ofSites("1", 2, 1);
        Answers.ofSites("9", 2, 511);
        Answers.ofSites("00000000", 2, 0, 0, 0, 0, 0, 0, 0, 0);
        Answers.ofSites("80000000", 2, 1, 128, 64, 32, 16, 8, 4, 2);
        Answers.ofSites("00000008", 2, 128, 64, 32, 16, 8, 4, 2, 1);
        Answers.ofSites("70000001", 2, 1, 64, 32, 16, 8, 4, 2, 1);
        Answers.ofSites("19", 2, 341, 171);
        // The 9 of SITE 0 is in the air for more than two rounds.
        Answers.ofSites("9111", 2, 35, 273, 137, 69);
        Answers.ofSites("20", 2, 1, 2);
    }

    private static void prime() {
        Check.sentence(STATES, "It is PRIME, if the STATES at all its SITES are different.");
        // One SITE alone; the first two, the last two, two in the midst, the first and the last one the same.
        Answers.ofRows(6, "0", 1, "5", 1, "9", 1, "00", 0, "99999999", 0, "80000000", 1, "20", 1,
                "3441", 0, "4134", 0, "1344", 0, "4413", 0, "70000001", 0, "441", 1, "441441", 0, "321", -1);
    }

    private static void groundRow() {
        Check.sentence(STATES, "It is a GROUND ROW, if one of them is the GROUND of its PROPS.");
        // At the SITE 0 alone, at the last one alone, at none; of no props, and of nine.
        Answers.ofRows(7, "441", 1, "414", 1, "144", 1, "51", 0, "15", 0, "40", 0, "0", 1, "00000000", 1, "9", 1,
                "99999999", 1, "08000000", 1, "19", 0, "321", -1);
    }

    private static void beatAtFirst() {
        Check.sentence(JUGGLER, "has a STATE, and a BEAT (0 at first)");
        Cascadecourt court = new Cascadecourt();
        Check.that("STATE", 0, court.many(2));
        Check.that("BEAT", 0, court.many(3));
        court.toss(0);
        Check.that("BEAT behind a THROW", 1, court.many(3));
    }

    private static void take() {
        Check.sentence(JUGGLER, "To TAKE n props (1 to 6): BEAT is 0, STATE is the GROUND of n, "
                + "the prop k (from 0 on) is to land at the beat k; nothing is DROPPED.");
        Cascadecourt court = new Cascadecourt();
        for (int props : new int[] {6, 1}) {
            Courts.tossAll(court, 0, 0, 5);
            court.take(props);
            Check.that("BEAT", 0, court.many(3));
            Check.that("STATE", props == 6 ? 63 : 1, court.many(2));
            Check.that("props", props, court.many(1));
            Check.that("DROPPED", 0, court.many(5));
            for (int prop = 0; prop < props; prop++) {
                Check.that("where the prop " + prop + " lands", prop, court.ofProp(prop, 0));
            }
            Check.fails("the prop " + props, Check.INDEX, court, () -> court.ofProp(props, 0));
        }
        Check.fails("TAKE none", Check.ARGUMENT, court, () -> court.take(0));
        Check.fails("TAKE seven", Check.ARGUMENT, court, () -> court.take(7));
    }

    private static void beforeTake() {
        Check.sentence(JUGGLER, "Before that it has none (STATE 0).");
        Cascadecourt court = Courts.with("3");
        Check.that("props", 0, court.many(1));
        Check.that("STATE", 0, court.many(2));
        Check.fails("the prop 0", Check.INDEX, court, () -> court.ofProp(0, 0));
        Check.that("a THROW", -1, court.toss(3));
        Check.that("RUN", 2, court.run(0, 0, 2));
        Check.that("pick()", -1, court.pick());
        Check.that("props behind them", 0, court.many(1));
        Check.that("STATE behind them", 0, court.many(2));
        Check.that("DROPPED behind them", 0, court.many(5));
    }

    private static void thrown() {
        Check.sentence(JUGGLER, "the prop that lands now, if there is one, is thrown (its FLIGHTS are 1 more)");
        Cascadecourt court = Courts.thrown(6);
        Check.that("6 of six", 0, court.toss(6));
        Check.that("FLIGHTS of 0", 1, court.ofProp(0, 1));
        Check.that("FLIGHTS of 1", 0, court.ofProp(1, 1));
        Courts.tossAll(court, 6, 6, 6, 6);
        Check.that("6 of the last one", 5, court.toss(6));
        Check.that("FLIGHTS of 5", 1, court.ofProp(5, 1));
        Check.that("FLIGHTS of all", 6, court.many(6));
        Cascadecourt none = Courts.thrown(1, 2);
        Check.that("0 with none", -1, none.toss(0));
        Check.that("FLIGHTS with none", 1, none.many(6));
        Check.that("SLIPS with none", 0, none.many(4));
    }

    private static void slip() {
        Check.sentence(JUGGLER, "If section 2 does not let it, that is a SLIP, and nothing is thrown");
        Cascadecourt court = Courts.thrown(3, 5);
        Check.that("0 with a prop", -1, court.toss(0));
        Check.that("3 where another one lands", -1, court.toss(3));
        Check.that("9 with none", -1, court.toss(9));
        Check.that("SLIPS", 3, court.many(4));
        Check.that("FLIGHTS", 1, court.many(6));
    }

    private static void propsLandIn(Cascadecourt court, int... due) {
        for (int prop = 0; prop < due.length; prop++) {
            Check.that("beats till the prop " + prop + " lands", due[prop], court.ofProp(prop, 0));
            Check.that("how often the prop " + prop + " was DROPPED", due[prop] == -1 ? 1 : 0, court.ofProp(prop, 2));
        }
    }

    private static void droppedByNone() {
        Check.sentence(JUGGLER, "with 0, as a prop lands, that prop is DROPPED");
        propsLandIn(Courts.thrown(1, 0), -1);
        propsLandIn(Courts.thrown(6, 0), -1, 0, 1, 2, 3, 4);
        propsLandIn(Courts.thrown(2, 9, 0), 7, -1);
        propsLandIn(Courts.thrown(1, 2, 0), 0);
    }

    private static void droppedByMeeting() {
        Check.sentence(JUGGLER, "with 1 to 9, as a prop lands and another one is to land when it would, "
                + "both are DROPPED");
        propsLandIn(Courts.thrown(2, 1), -1, -1);
        propsLandIn(Courts.thrown(6, 1), -1, -1, 1, 2, 3, 4);
        propsLandIn(Courts.thrown(6, 5), -1, 0, 1, 2, 3, -1);
        propsLandIn(Courts.thrown(3, 9, 8), -1, -1, 0);
        // None is ever to land 9 beats from now.
        propsLandIn(Courts.thrown(3, 9, 9), 7, 8, 0);
    }

    private static void droppedByNothing() {
        Check.sentence(JUGGLER, "with 1 to 9, as none lands, nothing is");
        Cascadecourt court = Courts.thrown(2, 9, 9);
        Check.that("8 with none, where one is to land", -1, court.toss(8));
        propsLandIn(court, 6, 7);
        Check.that("1 with none", -1, court.toss(1));
        Check.that("9 with none", -1, court.toss(9));
        propsLandIn(court, 4, 5);
        Check.that("SLIPS", 3, court.many(4));
        Check.that("DROPPED", 0, court.many(5));
        Cascadecourt without = new Cascadecourt();
        Check.that("1 without props", -1, without.toss(1));
        Check.that("DROPPED without props", 0, without.many(5));
    }

    private static void beatInEachCase() {
        Check.sentence(JUGGLER, "BEAT is 1 more in each case, and STATE goes on by a beat.");
        Cascadecourt court = Courts.thrown(4);
        int[] heights = {9, 0, 1, 0, 5, 0};
        // Thrown; DROPPED; both DROPPED; 0 with none; 5 with none; 0 with none.
        int[] due = {263, 131, 64, 32, 16, 8};
        for (int beat = 0; beat < heights.length; beat++) {
            court.toss(heights[beat]);
            Check.that("BEAT behind " + heights[beat], beat + 1, court.many(3));
            Check.that("STATE behind " + heights[beat], due[beat], court.many(2));
        }
        Check.that("SLIPS", 3, court.many(4));
    }

    private static void pickedUp() {
        Check.sentence(JUGGLER, "A DROPPED prop is not in the STATE till it is PICKED up: that can be, "
                + "if no prop lands now; it is to land now then (0 is in the STATE).");
        Cascadecourt court = Courts.thrown(2, 0);
        Check.that("STATE without it", 1, court.many(2));
        Check.keepsAll("as another one lands", -1, court, court::pick);
        court.toss(5);
        Check.that("as none lands", 0, court.pick());
        Check.that("STATE with it", 17, court.many(2));
        Check.that("it is to land now", 0, court.many(8));
        Check.that("BEAT stays", 2, court.many(3));
        Check.that("DROPPED", 0, court.many(5));
        Check.that("it can be thrown", 0, court.toss(3));
    }

    private static void run() {
        Check.sentence(JUGGLER, "To RUN a ROW from a SITE: THROW by THROW as by hand, beat by beat.");
        int[] heights = {5, 0, 4, 4, 1, 0, 7, 2};
        for (int site = 0; site < 8; site++) {
            for (int beats = 1; beats <= 30; beats++) {
                Cascadecourt running = Courts.with("50441072");
                Cascadecourt byHand = Courts.with("50441072");
                running.take(3);
                byHand.take(3);
                running.run(0, site, beats);
                for (int beat = 0; beat < beats; beat++) {
                    byHand.toss(heights[(site + beat) % 8]);
                }
                Check.that(beats + " beats from SITE " + site, Courts.all(byHand), Courts.all(running));
            }
        }
    }

    private static void tiredAtFirst() {
        Check.sentence(JUGGLER, "TIRED is a double (0.0 at first, and by TAKE)");
        Cascadecourt court = new Cascadecourt();
        Check.that("at first", 0.0, court.tired());
        court.take(1);
        Check.that("by the first TAKE", 0.0, court.tired());
        court.toss(9);
        Check.that("behind 9", 1.125, court.tired());
        court.take(6);
        Check.that("by TAKE again", 0.0, court.tired());
    }

    private static void tired() {
        Check.sentence(JUGGLER, "by each beat by which a prop is thrown it is t * 0.125 more, "
                + "by each other one 0.25 less, 0.0 at least.");
        Cascadecourt court = Courts.thrown(1, 1);
        Check.that("by 1", 0.125, court.tired());
        court.toss(9);
        Check.that("by 9", 1.25, court.tired());
        double[] due = {1.0, 0.75, 0.5, 0.25, 0.0, 0.0};
        int[] heights = {0, 4, 0, 9, 1, 0};
        for (int beat = 0; beat < due.length; beat++) {
            court.toss(heights[beat]);
            Check.that("by " + heights[beat] + " with none", due[beat], court.tired());
        }
        Cascadecourt low = Courts.thrown(1, 1, 0);
        Check.that("0.125 less 0.25", 0.0, low.tired());
    }

    private static Cascadecourt played() {
        Cascadecourt court = Courts.with("441", "321", "99999999", "0", "51", "4400", "80000000", "6");
        court.take(5);
        Courts.tossAll(court, 9, 0, 1);
        return court;
    }

    private static void changesNothing() {
        Check.sentence(EXCEPTIONS, "A method that throws an exception changes nothing.");
        Cascadecourt court = played();
        Check.fails("tell(-1, 1)", Check.ARGUMENT, court, () -> court.tell(-1, 1));
        Check.fails("tell(1, 1)", Check.STATE, court, () -> court.tell(1, 1));
        Check.fails("shift(8, 1)", Check.INDEX, court, () -> court.shift(8, 1));
        Check.fails("shift(0, 8)", Check.ARGUMENT, court, () -> court.shift(0, 8));
        Check.fails("swap(0, 0, 3)", Check.INDEX, court, () -> court.swap(0, 0, 3));
        Check.fails("swap(0, 0, 0)", Check.ARGUMENT, court, () -> court.swap(0, 0, 0));
        Check.fails("swap(2, 0, 7)", Check.STATE, court, () -> court.swap(2, 0, 7));
        Check.fails("raise(8, 1)", Check.INDEX, court, () -> court.raise(8, 1));
        Check.fails("raise(0, 10)", Check.ARGUMENT, court, () -> court.raise(0, 10));
        Check.fails("raise(0, 6)", Check.STATE, court, () -> court.raise(0, 6));
        Check.fails("raise(0, -2)", Check.STATE, court, () -> court.raise(0, -2));
        Check.fails("turn(8)", Check.INDEX, court, () -> court.turn(8));
        Check.fails("turn(1)", Check.STATE, court, () -> court.turn(1));
        Check.fails("join(0, 8)", Check.INDEX, court, () -> court.join(0, 8));
        Check.fails("join(0, 2)", Check.STATE, court, () -> court.join(0, 2));
        Check.fails("take(7)", Check.ARGUMENT, court, () -> court.take(7));
        Check.fails("toss(10)", Check.ARGUMENT, court, () -> court.toss(10));
        Check.fails("run(0, 3, 1)", Check.INDEX, court, () -> court.run(0, 3, 1));
        Check.fails("run(0, 0, 31)", Check.ARGUMENT, court, () -> court.run(0, 0, 31));
        Check.that("the court as it was", Courts.all(played()), Courts.all(court));
    }

    private static void firstOfSeveral() {
        Check.sentence(EXCEPTIONS, "If several exceptions apply, the one that is named first is thrown.");
        Cascadecourt court = played();
        Check.fails("tell, argument ahead of state", Check.ARGUMENT, court, () -> court.tell(-1, 1));
        Check.fails("tell, LENGTH ahead of state", Check.ARGUMENT, court, () -> court.tell(1, 9));
        Check.fails("tell, digits ahead of state", Check.ARGUMENT, court, () -> court.tell(10, 1));
        Check.fails("shift, ROW ahead of argument", Check.INDEX, court, () -> court.shift(8, 8));
        Check.fails("swap, ROW ahead of argument", Check.INDEX, court, () -> court.swap(8, 1, 1));
        Check.fails("raise, ROW ahead of argument", Check.INDEX, court, () -> court.raise(8, 10));
        Check.fails("raise, argument ahead of state", Check.ARGUMENT, court, () -> court.raise(0, 10));
        Check.fails("raise, argument ahead of state, below", Check.ARGUMENT, court, () -> court.raise(0, -10));
        Check.fails("join, second ROW ahead of state", Check.INDEX, court, () -> court.join(2, 8));
        Check.fails("join, first ROW ahead of state", Check.INDEX, court, () -> court.join(-1, 2));
        Check.fails("run, ROW ahead of argument", Check.INDEX, court, () -> court.run(8, 0, 0));
        Check.fails("ofRow, ROW ahead of argument", Check.INDEX, court, () -> court.ofRow(8, 10));
        Check.fails("ofSite, ROW ahead of argument", Check.INDEX, court, () -> court.ofSite(8, 0, 5));
        Check.fails("ofProp, prop ahead of argument", Check.INDEX, court, () -> court.ofProp(5, 4));
    }

    private static void firstOfSeveralAboutSites() {
        Check.sentence(EXCEPTIONS, "If several exceptions apply, the one that is named first is thrown.");
        Cascadecourt court = played();
        Check.fails("swap, SITE ahead of argument", Check.INDEX, court, () -> court.swap(0, 3, 3));
        Check.fails("swap, SITE -1 ahead of argument", Check.INDEX, court, () -> court.swap(0, -1, -1));
        Check.fails("run, SITE ahead of argument", Check.INDEX, court, () -> court.run(0, 3, 31));
        Check.fails("run, SITE -1 ahead of argument", Check.INDEX, court, () -> court.run(0, -1, 0));
        Check.fails("ofSite, SITE ahead of argument", Check.INDEX, court, () -> court.ofSite(0, 3, 5));
        Check.fails("ofSite, SITE -1 ahead of argument", Check.INDEX, court, () -> court.ofSite(0, -1, -1));
    }
}
