/** The boundary cases that promises 12 to 18 name: a test for each sentence. */
public final class AskedEdgesTest {
    private static final String OF_ROW = "Promise 12: ofRow";
    private static final String OF_SITE = "Promise 13: ofSite";
    private static final String TEXT = "Promise 14: text";
    private static final String OF_PROP = "Promise 15: ofProp";
    private static final String MANY = "Promise 16: many";
    private static final String TIRED = "Promise 17: tired";
    private static final String HIGH = "Promise 18: high";
    private static final String NO_SUCH_ROW = "Throws IndexOutOfBoundsException if there is no such ROW";

    public static void main(String[] args) {
        ofRow();
        ofSite();
        text();
        ofProp();
        many();
        tired();
        high();
        Check.end("AskedEdgesTest");
    }

    private static void ofRow() {
        ofRowLengthAndHighest();
        ofRowPeriod();
        ofRowNotSound();
        ofRowWithoutOrbit();
        ofRowNoSuchRow();
        ofRowWhat();
    }

    private static void ofSite() {
        ofSiteLanding();
        ofSiteNotSound();
        ofSiteWithoutThrow();
        ofSiteNoSuchRow();
        ofSiteNoSuchSite();
        ofSiteWhat();
    }

    private static void text() {
        textDigits();
        textNoSuchRow();
    }

    private static void ofProp() {
        ofPropLanding();
        ofPropFlights();
        ofPropDropped();
        ofPropHand();
        ofPropNoSuchProp();
        ofPropWhat();
    }

    private static void many() {
        manyRows();
        manyProps();
        manyEver();
        manyFlights();
        manyLandingNow();
        manyWhat();
    }

    private static void tired() {
        tiredNone();
        tiredMuch();
    }

    private static void high() {
        highQuarters();
        highNone();
        highNoSuchRow();
    }

    private static void ofRowLengthAndHighest() {
        Check.sentence(OF_ROW, "0 LENGTH, 1 1 if it is SOUND, otherwise 0, 2 PROPS, 3 the highest THROW");
        Answers.ofRows(0, "0", 1, "9", 1, "00000000", 8, "99999999", 8, "01", 2);
        Answers.ofRows(3, "0", 0, "9", 9, "00000000", 0, "90000000", 9, "00000009", 9, "00010000", 1, "88888889", 9);
    }

    private static void ofRowPeriod() {
        Check.sentence(OF_ROW, "8 the smallest number of beats behind which its THROWS are the same as before "
                + "(a divisor of LENGTH)");
        // 1212121 comes again behind 7 beats alone: 2 is no divisor of 7.
        Answers.ofRows(8, "5", 1, "55", 1, "5555555", 1, "00000000", 1, "12345678", 8, "12121212", 2, "12341234", 4,
                "1212121", 7, "12112", 5, "123123", 3, "121212", 2, "112112", 3, "1121", 4, "1112", 4, "2111", 4,
                "10000000", 8, "11111110", 8, "121112", 6);
    }

    private static void ofRowNotSound() {
        Check.sentence(OF_ROW, "5, 6, 7 and 9: NONE, if it is not SOUND");
        String[] rows = {"10", "321", "90000000", "00000009", "6040", "99999998"};
        for (int what : new int[] {2, 5, 6, 7, 9}) {
            for (String row : rows) {
                Check.that("ofRow of " + row + ", " + what, -1, Courts.with(row).ofRow(0, what));
            }
        }
        // The others are asked of a ROW that is not SOUND, too.
        Answers.ofRows(0, "321", 3, "10", 2);
        Answers.ofRows(1, "321", 0, "10", 0);
        Answers.ofRows(3, "321", 3, "10", 1);
        Answers.ofRows(4, "321", 2, "10", 1);
        Answers.ofRows(8, "321", 3, "10", 2);
    }

    private static void ofRowWithoutOrbit() {
        Check.sentence(OF_ROW, "9: 0 without an ORBIT");
        Answers.ofRows(9, "0", 0, "00000000", 0, "1", 1, "80000000", 8, "00000008", 8, "28", 8, "82", 8, "99999999", 72,
                "20", 2, "97531", 10);
        Answers.ofRows(5, "0", 0, "00000000", 0);
    }

    private static void ofRowNoSuchRow() {
        Check.sentence(OF_ROW, NO_SUCH_ROW);
        Edges.noSuchRow("ofRow(.., 0)", "441", (it, row) -> it.ofRow(row, 0));
        Edges.noSuchRow("ofRow(.., 9)", "321", (it, row) -> it.ofRow(row, 9));
    }

    private static void ofRowWhat() {
        Check.sentence(OF_ROW, "Throws IllegalArgumentException if what is not 0 to 9");
        Edges.range("ofRow(0, ..)", () -> Courts.with("441"), 0, 9, (it, what) -> it.ofRow(0, what));
        Edges.range("ofRow(0, ..)", () -> Courts.with("321"), 0, 9, (it, what) -> it.ofRow(0, what));
    }

    private static void ofSiteLanding() {
        Check.sentence(OF_SITE, "1 the SITE at which that lands (modulo LENGTH)");
        Answers.ofSites("9", 1, 0);
        Answers.ofSites("19", 1, 1, 0);
        Answers.ofSites("70000001", 1, 7, 1, 2, 3, 4, 5, 6, 0);
        Answers.ofSites("99999999", 1, 1, 2, 3, 4, 5, 6, 7, 0);
        Answers.ofSites("88888888", 1, 0, 1, 2, 3, 4, 5, 6, 7);
        Answers.ofSites("00000009", 1, 0, 1, 2, 3, 4, 5, 6, 0);
        Answers.ofSites("321", 1, 0, 0, 0);
    }

    private static void ofSiteNotSound() {
        Check.sentence(OF_SITE, "2 to 4: NONE, if the ROW is not SOUND");
        for (int what = 2; what <= 4; what++) {
            Answers.ofSites("321", what, -1, -1, -1);
            Answers.ofSites("10", what, -1, -1);
            Answers.ofSites("00000009", what, -1, -1, -1, -1, -1, -1, -1, -1);
        }
        Answers.ofSites("321", 0, 3, 2, 1);
        Answers.ofSites("00000009", 0, 0, 0, 0, 0, 0, 0, 0, 9);
    }

    private static void ofSiteWithoutThrow() {
        Check.sentence(OF_SITE, "3 and 4 of a SOUND one: 0 with a THROW of 0; 1 with a THROW of 0: the SITE itself");
        Answers.ofSites("0", 1, 0);
        Answers.ofSites("0", 3, 0);
        Answers.ofSites("0", 4, 0);
        Answers.ofSites("4400", 1, 0, 1, 2, 3);
        Answers.ofSites("4400", 3, 4, 4, 0, 0);
        Answers.ofSites("4400", 4, 1, 1, 0, 0);
        // The STATE is asked at a SITE with a THROW of 0, too.
        Answers.ofSites("4400", 2, 3, 9, 12, 6);
        Answers.ofSites("70000001", 1, 7, 1, 2, 3, 4, 5, 6, 0);
        Answers.ofSites("70000001", 3, 8, 0, 0, 0, 0, 0, 0, 8);
        // In a ROW that is not SOUND a THROW of 0 has its SITE all the same.
        Answers.ofSites("6040", 1, 2, 1, 2, 3);
    }

    private static void ofSiteNoSuchRow() {
        Check.sentence(OF_SITE, NO_SUCH_ROW);
        Edges.noSuchRow("ofSite(.., 0, 0)", "441", (it, row) -> it.ofSite(row, 0, 0));
        Edges.noSuchRow("ofSite(.., 2, 4)", "321", (it, row) -> it.ofSite(row, 2, 4));
    }

    private static void ofSiteNoSuchSite() {
        Check.sentence(OF_SITE, "or SITE of it");
        for (int asked = 0; asked <= 4; asked++) {
            int what = asked;
            Edges.noSuchSite("ofSite(0, .., " + what + ")", (it, site) -> it.ofSite(0, site, what));
        }
    }

    private static void ofSiteWhat() {
        Check.sentence(OF_SITE, "Throws IllegalArgumentException if what is not 0 to 4");
        Edges.range("ofSite(0, 2, ..)", () -> Courts.with("441"), 0, 4, (it, what) -> it.ofSite(0, 2, what));
        Edges.range("ofSite(0, 2, ..)", () -> Courts.with("321"), 0, 4, (it, what) -> it.ofSite(0, 2, what));
    }

    private static void textDigits() {
        Check.sentence(TEXT, "Returns its THROWS as digits.");
        String[] rows = {"0", "9", "00000000", "99999999", "01234567", "00000009", "7", "90"};
        Cascadecourt court = Courts.with(rows);
        for (int row = 0; row < rows.length; row++) {
            Check.that("the ROW " + row, rows[row], court.text(row));
        }
        court.join(6, 6);
        Check.that("7 twice", "77", court.text(6));
    }

    private static void textNoSuchRow() {
        Check.sentence(TEXT, NO_SUCH_ROW);
        Edges.noSuchRow("text", "441", Cascadecourt::text);
    }

    private static void ofPropLanding() {
        Check.sentence(OF_PROP, "0 in how many beats it is to land (NONE, if it is DROPPED)");
        Answers.ofProps(Courts.thrown(6), 0, 0, 1, 2, 3, 4, 5);
        Answers.ofProps(Courts.thrown(2, 9), 0, 8, 0);
        Answers.ofProps(Courts.thrown(2, 9, 0), 0, 7, -1);
        Answers.ofProps(Courts.thrown(1, 1), 0, 0);
        Cascadecourt court = Courts.thrown(2, 0, 9);
        court.pick();
        Answers.ofProps(court, 0, 0, 8);
    }

    private static void ofPropFlights() {
        Check.sentence(OF_PROP, "1 FLIGHTS");
        Answers.ofProps(Courts.thrown(6), 1, 0, 0, 0, 0, 0, 0);
        Answers.ofProps(Courts.thrown(2, 9, 0), 1, 1, 0);
        Answers.ofProps(Courts.thrown(1, 1, 1, 1, 0), 1, 3);
        Cascadecourt court = Courts.thrown(1, 1, 0);
        court.pick();
        Answers.ofProps(court, 1, 1);
        court.toss(1);
        Answers.ofProps(court, 1, 2);
        court.take(1);
        Answers.ofProps(court, 1, 0);
    }

    private static void ofPropDropped() {
        Check.sentence(OF_PROP, "2 how often it was DROPPED since it was taken");
        Cascadecourt court = Courts.thrown(2);
        Answers.ofProps(court, 2, 0, 0);
        court.toss(1);
        Answers.ofProps(court, 2, 1, 1);
        for (int time = 2; time <= 5; time++) {
            court.pick();
            Answers.ofProps(court, 2, time - 1, 1);
            court.toss(0);
            Answers.ofProps(court, 2, time, 1);
        }
        court.take(2);
        Answers.ofProps(court, 2, 0, 0);
    }

    private static void ofPropHand() {
        Check.sentence(OF_PROP, "3 the hand to which it goes (0 right, 1 left; NONE, if it is DROPPED)");
        Answers.ofProps(Courts.thrown(6), 3, 0, 1, 0, 1, 0, 1);
        // 9 from the beat 0 goes to the left hand, 9 from the beat 1 to the right one.
        Answers.ofProps(Courts.thrown(3, 9, 9), 3, 1, 0, 0);
        Answers.ofProps(Courts.thrown(3, 8, 8), 3, 0, 1, 0);
        Answers.ofProps(Courts.thrown(3, 0), 3, -1, 1, 0);
        Cascadecourt court = Courts.thrown(1, 0);
        court.pick();
        Answers.ofProps(court, 3, 1);
    }

    private static void ofPropNoSuchProp() {
        Check.sentence(OF_PROP, "Throws IndexOutOfBoundsException if there is no such prop");
        for (int asked = 0; asked <= 3; asked++) {
            int what = asked;
            String call = "ofProp(.., " + what + ")";
            Edges.Asked asking = (it, prop) -> it.ofProp(prop, what);
            Edges.refused(call + " without props", Check.INDEX, new Cascadecourt(), asking, 0, -1, 1, 5, 6);
            Edges.refused(call + " of one", Check.INDEX, Courts.thrown(1), asking, 1, -1, 5, 6,
                    Integer.MIN_VALUE, Integer.MAX_VALUE);
            Edges.taken(call + " of one", () -> Courts.thrown(1), asking, 0);
            Edges.refused(call + " of six", Check.INDEX, Courts.thrown(6), asking, 6, -1, 7);
            Edges.taken(call + " of six", () -> Courts.thrown(6), asking, 0, 5);
            Edges.taken(call + " of six that are DROPPED", () -> Courts.thrown(6, 0, 0, 0, 0, 0, 0), asking, 0, 5);
        }
        Cascadecourt fewer = Courts.thrown(6);
        fewer.take(2);
        Edges.refused("of six, then two", Check.INDEX, fewer, (it, prop) -> it.ofProp(prop, 0), 2, 5);
    }

    private static void ofPropWhat() {
        Check.sentence(OF_PROP, "Throws IllegalArgumentException if what is not 0 to 3");
        Edges.range("ofProp(0, ..)", () -> Courts.thrown(1), 0, 3, (it, what) -> it.ofProp(0, what));
        Edges.range("ofProp(0, ..) DROPPED", () -> Courts.thrown(1, 0), 0, 3, (it, what) -> it.ofProp(0, what));
    }

    private static void manyRows() {
        Check.sentence(MANY, "0 ROWS");
        Cascadecourt court = new Cascadecourt();
        // Each second one of them is SOUND.
        for (int rows = 0; rows < 8; rows++) {
            Check.that("ROWS", rows, court.many(0));
            Check.that("ROWS that are SOUND", (rows + 1) / 2, court.many(7));
            court.tell(rows % 2 == 0 ? 20 : 21, 2);
        }
        Check.that("ROWS", 8, court.many(0));
        Check.that("ROWS that are SOUND", 4, court.many(7));
        court.join(0, 1);
        Check.that("ROWS behind join()", 8, court.many(0));
        Check.that("ROWS that are SOUND behind join()", 3, court.many(7));
        Check.that("all of eight", 8, Courts.withEight("3").many(7));
        Check.that("none of eight", 0, Courts.withEight("21").many(7));
    }

    private static void manyProps() {
        Check.sentence(MANY, "1 props (DROPPED ones, too)");
        Check.that("none", 0, new Cascadecourt().many(1));
        Cascadecourt court = Courts.thrown(6);
        for (int dropped = 0; dropped <= 6; dropped++) {
            Check.that("props", 6, court.many(1));
            Check.that("props that are DROPPED", dropped, court.many(5));
            court.toss(0);
        }
        court.take(1);
        Check.that("one", 1, court.many(1));
    }

    private static void manyEver() {
        Check.sentence(MANY, "9 beats ever, by hand and by ROWS");
        Cascadecourt court = Courts.with("9");
        court.run(0, 0, 30);
        Check.that("SLIPS ever, before TAKE", 30, court.many(4));
        Check.that("beats ever, before TAKE", 30, court.many(9));
        court.take(1);
        Courts.tossAll(court, 9, 0, 9);
        Check.that("SLIPS ever", 31, court.many(4));
        Check.that("beats ever", 33, court.many(9));
        Check.that("BEAT", 3, court.many(3));
        court.take(6);
        Check.fails("toss(10)", Check.ARGUMENT, court, () -> court.toss(10));
        court.pick();
        Check.that("SLIPS ever, behind TAKE", 31, court.many(4));
        Check.that("beats ever, behind TAKE", 33, court.many(9));
        Check.that("BEAT behind TAKE", 0, court.many(3));
    }

    private static void manyFlights() {
        Check.sentence(MANY, "6 FLIGHTS of all props together");
        Cascadecourt court = Courts.thrown(3);
        Check.that("none", 0, court.many(6));
        Courts.tossAll(court, 3, 3, 3, 3, 0);
        Check.that("of one that is DROPPED, too", 4, court.many(6));
        court.take(3);
        Check.that("of others", 0, court.many(6));
    }

    private static void manyLandingNow() {
        Check.sentence(MANY, "8 the prop that lands now (NONE)");
        Check.that("without props", -1, new Cascadecourt().many(8));
        Check.that("the first one", 0, Courts.thrown(6).many(8));
        Check.that("the last one", 5, Courts.thrown(6, 9, 9, 9, 9, 9).many(8));
        Check.that("one in the air", -1, Courts.thrown(1, 2).many(8));
        Check.that("one that is DROPPED", -1, Courts.thrown(1, 0).many(8));
        Cascadecourt court = Courts.thrown(1, 0);
        court.pick();
        Check.that("one that is PICKED up", 0, court.many(8));
    }

    private static void manyWhat() {
        Check.sentence(MANY, "Throws IllegalArgumentException if what is not 0 to 9");
        Edges.range("many", Cascadecourt::new, 0, 9, Cascadecourt::many);
        Edges.range("many of a game", () -> Courts.thrown(6, 9, 0), 0, 9, Cascadecourt::many);
    }

    private static void tiredNone() {
        Check.sentence(TIRED, "Returns TIRED.");
        Check.that("of a new one", 0.0, new Cascadecourt().tired());
        Check.that("behind TAKE", 0.0, Courts.thrown(6).tired());
        Check.that("by 0 at 0.0", 0.0, Courts.thrown(1, 0, 0).tired());
        Check.that("by a SLIP at 0.0", 0.0, Courts.thrown(2, 1).tired());
        Check.that("0.25 less 0.25", 0.0, Courts.thrown(1, 2, 0).tired());
        Check.that("0.375 less 0.25", 0.125, Courts.thrown(1, 3, 0).tired());
        Check.that("by 1", 0.125, Courts.thrown(1, 1).tired());
        Check.that("by 9", 1.125, Courts.thrown(1, 9).tired());
        Check.that("by a SLIP that drops two", 0.875, Courts.thrown(3, 9, 1).tired());
    }

    private static void tiredMuch() {
        Check.sentence(TIRED, "Returns TIRED.");
        Cascadecourt court = Courts.with("6");
        court.take(6);
        for (int time = 0; time < 500; time++) {
            court.run(0, 0, 30);
        }
        Check.that("by 15000 THROWS of 6", 11250.0, court.tired());
        Check.keepsAll("asked", 11250.0, court, court::tired);
    }

    private static void highQuarters() {
        Check.sentence(HIGH, "to the nearest quarter of a metre");
        double[] due = {0.0, 0.0, 0.0, 0.25, 0.75, 1.25, 2.0, 2.75, 3.75, 5.0};
        for (int height = 0; height <= 9; height++) {
            Check.that("of " + height, due[height], Courts.with("" + height).high(0));
            Check.that("of 0000000" + height, due[height], Courts.with("0000000" + height).high(0));
            Check.that("of " + height + "0000000", due[height], Courts.with(height + "0000000").high(0));
        }
    }

    private static void highNone() {
        Check.sentence(HIGH, "0.0 for a THROW of 0 or 1.");
        Check.that("of 0", 0.0, Courts.with("0").high(0));
        Check.that("of 1", 0.0, Courts.with("1").high(0));
        Check.that("of 00000000", 0.0, Courts.with("00000000").high(0));
        Check.that("of 01111111", 0.0, Courts.with("01111111").high(0));
        Check.that("of 113", 0.25, Courts.with("113").high(0));
        Cascadecourt court = Courts.with("3");
        court.raise(0, -2);
        Check.that("of 3, lowered by 2", 0.0, court.high(0));
    }

    private static void highNoSuchRow() {
        Check.sentence(HIGH, NO_SUCH_ROW);
        Edges.noSuchRow("high", "441", Cascadecourt::high);
    }
}
