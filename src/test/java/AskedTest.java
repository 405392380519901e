/** Promises 12 to 18: what is asked of ROWS, SITES, props and the juggler. */
public final class AskedTest {
    private static final Class<IndexOutOfBoundsException> INDEX = IndexOutOfBoundsException.class;
    private static final Class<IllegalArgumentException> ARGUMENT = IllegalArgumentException.class;

    public static void main(String[] args) {
        ofRow();
        ofRowWrong();
        ofSite();
        ofSiteWrong();
        text();
        ofProp();
        many();
        tired();
        high();
        Check.end("AskedTest");
    }

    private static Cascadecourt courtWith(String... rows) {
        Cascadecourt court = new Cascadecourt();
        for (String row : rows) {
            court.tell(Integer.parseInt(row), row.length());
        }
        return court;
    }

    /** All answers of ofRow about that one: 0 to 9. */
    private static void rowIs(String row, int... due) {
        Cascadecourt court = courtWith(row);
        for (int what = 0; what < due.length; what++) {
            Check.that("ofRow of " + row + ", " + what, due[what], court.ofRow(0, what));
        }
    }

    private static void ofRow() {
        rowIs("3", 1, 1, 3, 3, 1, 1, 1, 1, 1, 3);
        rowIs("0", 1, 1, 0, 0, 0, 0, 1, 1, 1, 0);
        rowIs("1", 1, 1, 1, 1, 1, 1, 1, 1, 1, 1);
        rowIs("9", 1, 1, 9, 9, 1, 1, 1, 1, 1, 9);
        rowIs("441", 3, 1, 3, 4, 1, 1, 1, 1, 3, 9);
        rowIs("51", 2, 1, 3, 5, 2, 1, 1, 0, 2, 6);
        rowIs("97531", 5, 1, 5, 9, 5, 3, 1, 1, 5, 10);
        rowIs("531", 3, 1, 3, 5, 3, 2, 1, 1, 3, 6);
        rowIs("333", 3, 1, 3, 3, 3, 3, 0, 1, 1, 3);
        // One SITE too many at the GROUND, in front or at the end: not PRIME.
        rowIs("3441", 4, 1, 3, 4, 2, 3, 0, 1, 4, 4);
        rowIs("4413", 4, 1, 3, 4, 2, 3, 0, 1, 4, 4);
        rowIs("0000", 4, 1, 0, 0, 0, 0, 0, 1, 1, 0);
        rowIs("4242", 4, 1, 3, 4, 0, 3, 0, 1, 2, 4);
        rowIs("6040", 4, 0, -1, 6, 0, -1, -1, -1, 4, -1);
        rowIs("3131", 4, 1, 2, 3, 4, 2, 0, 1, 2, 4);
        rowIs("321", 3, 0, -1, 3, 2, -1, -1, -1, 3, -1);
        rowIs("5050", 4, 0, -1, 5, 2, -1, -1, -1, 2, -1);
        rowIs("21", 2, 0, -1, 2, 1, -1, -1, -1, 2, -1);
        rowIs("40", 2, 1, 2, 4, 0, 1, 1, 0, 2, 4);
        rowIs("3340", 4, 0, -1, 4, 2, -1, -1, -1, 4, -1);
        rowIs("12121212", 8, 0, -1, 2, 4, -1, -1, -1, 2, -1);
        rowIs("11111112", 8, 0, -1, 2, 7, -1, -1, -1, 8, -1);
        rowIs("11121112", 8, 0, -1, 2, 6, -1, -1, -1, 4, -1);
        rowIs("44144144", 8, 0, -1, 4, 2, -1, -1, -1, 8, -1);
    }

    private static void ofRowWrong() {
        Cascadecourt court = courtWith("3", "441");
        Check.that("ofRow(1, 0)", 3, court.ofRow(1, 0));
        Check.fails("ofRow(2, 0)", INDEX, court, () -> court.ofRow(2, 0));
        Check.fails("ofRow(-1, 0)", INDEX, court, () -> court.ofRow(-1, 0));
        Check.fails("ofRow(8, 0)", INDEX, court, () -> court.ofRow(8, 0));
        Check.fails("ofRow(0, 10)", ARGUMENT, court, () -> court.ofRow(0, 10));
        Check.fails("ofRow(0, -1)", ARGUMENT, court, () -> court.ofRow(0, -1));
        Check.fails("ofRow(2, 10)", INDEX, court, () -> court.ofRow(2, 10));
    }

    /** The answer of ofSite to one question, SITE by SITE. */
    private static void sitesAre(String row, int what, int... due) {
        Cascadecourt court = courtWith(row);
        for (int site = 0; site < due.length; site++) {
            Check.that("ofSite of " + row + ", " + site + ", " + what, due[site], court.ofSite(0, site, what));
        }
    }

    private static void ofSite() {
        sitesAre("97531", 0, 9, 7, 5, 3, 1);
        sitesAre("97531", 1, 4, 3, 2, 1, 0);
        sitesAre("97531", 2, 31, 271, 199, 115, 61);
        sitesAre("97531", 3, 10, 10, 5, 10, 10);
        sitesAre("97531", 4, 2, 2, 1, 2, 2);
        sitesAre("531", 2, 7, 19, 13);
        sitesAre("441", 1, 1, 2, 0);
        sitesAre("441", 3, 9, 9, 9);
        sitesAre("441", 4, 3, 3, 3);
        sitesAre("51", 2, 11, 21);
        sitesAre("4400", 0, 4, 4, 0, 0);
        sitesAre("4400", 1, 0, 1, 2, 3);
        sitesAre("4400", 2, 3, 9, 12, 6);
        sitesAre("4400", 3, 4, 4, 0, 0);
        sitesAre("4400", 4, 1, 1, 0, 0);
        sitesAre("6040", 0, 6, 0, 4, 0);
        sitesAre("6040", 1, 2, 1, 2, 3);
        sitesAre("6040", 2, -1, -1, -1, -1);
        sitesAre("6040", 3, -1, -1, -1, -1);
        sitesAre("6040", 4, -1, -1, -1, -1);
        sitesAre("9", 2, 511);
        sitesAre("0", 2, 0);
        sitesAre("1", 2, 1);
        sitesAre("90000000", 1, 1);
        sitesAre("3", 3, 3);
        sitesAre("3", 4, 3);
        sitesAre("0", 3, 0);
        sitesAre("0", 4, 0);
        sitesAre("1", 4, 1);
    }

    private static void ofSiteWrong() {
        Cascadecourt court = courtWith("441", "3");
        Check.fails("ofSite(2, 0, 0)", INDEX, court, () -> court.ofSite(2, 0, 0));
        Check.fails("ofSite(-1, 0, 0)", INDEX, court, () -> court.ofSite(-1, 0, 0));
        Check.fails("ofSite(0, 3, 0)", INDEX, court, () -> court.ofSite(0, 3, 0));
        Check.fails("ofSite(1, 1, 0)", INDEX, court, () -> court.ofSite(1, 1, 0));
        Check.fails("ofSite(0, -1, 0)", INDEX, court, () -> court.ofSite(0, -1, 0));
        Check.fails("ofSite(0, 0, 5)", ARGUMENT, court, () -> court.ofSite(0, 0, 5));
        Check.fails("ofSite(0, 0, -1)", ARGUMENT, court, () -> court.ofSite(0, 0, -1));
        Check.fails("ofSite(0, 3, 5)", INDEX, court, () -> court.ofSite(0, 3, 5));
    }

    private static void text() {
        Cascadecourt court = courtWith("0", "007", "98765432");
        Check.that("text(0)", "0", court.text(0));
        Check.that("text(1)", "007", court.text(1));
        Check.that("text(2)", "98765432", court.text(2));
        Check.fails("text(3)", INDEX, court, () -> court.text(3));
        Check.fails("text(-1)", INDEX, court, () -> court.text(-1));
        Check.fails("text(max)", INDEX, court, () -> court.text(Integer.MAX_VALUE));
    }

    private static void propIs(Cascadecourt court, int prop, int... due) {
        for (int what = 0; what < due.length; what++) {
            Check.that("ofProp(" + prop + ", " + what + ")", due[what], court.ofProp(prop, what));
        }
    }

    private static void ofProp() {
        Cascadecourt court = new Cascadecourt();
        Check.fails("ofProp without props", INDEX, court, () -> court.ofProp(0, 0));
        court.take(3);
        propIs(court, 0, 0, 0, 0, 0);
        propIs(court, 1, 1, 0, 0, 1);
        propIs(court, 2, 2, 0, 0, 0);
        court.toss(4);
        propIs(court, 0, 3, 1, 0, 0);
        propIs(court, 1, 0, 0, 0, 1);
        court.toss(9);
        propIs(court, 1, 8, 1, 0, 0);
        court.toss(2);
        // The prop 0 lands at the beat 4, as 2 does: both are DROPPED.
        propIs(court, 0, -1, 1, 1, -1);
        propIs(court, 1, 7, 1, 0, 0);
        propIs(court, 2, -1, 0, 1, -1);
        court.pick();
        propIs(court, 0, 0, 1, 1, 1);
        court.toss(0);
        propIs(court, 0, -1, 1, 2, -1);
        Check.fails("ofProp(3, 0)", INDEX, court, () -> court.ofProp(3, 0));
        Check.fails("ofProp(-1, 0)", INDEX, court, () -> court.ofProp(-1, 0));
        Check.fails("ofProp(6, 0)", INDEX, court, () -> court.ofProp(6, 0));
        Check.fails("ofProp(0, 4)", ARGUMENT, court, () -> court.ofProp(0, 4));
        Check.fails("ofProp(0, -1)", ARGUMENT, court, () -> court.ofProp(0, -1));
        Check.fails("ofProp(3, 4)", INDEX, court, () -> court.ofProp(3, 4));
    }

    private static void manyIs(Cascadecourt court, int... due) {
        for (int what = 0; what < due.length; what++) {
            Check.that("many(" + what + ")", due[what], court.many(what));
        }
    }

    private static void many() {
        Cascadecourt court = courtWith("441", "321", "0", "6040");
        manyIs(court, 4, 0, 0, 0, 0, 0, 0, 2, -1, 0);
        court.take(4);
        manyIs(court, 4, 4, 15, 0, 0, 0, 0, 2, 0, 0);
        court.toss(5);
        manyIs(court, 4, 4, 23, 1, 0, 0, 1, 2, 1, 1);
        court.toss(2);
        manyIs(court, 4, 4, 9, 2, 1, 2, 1, 2, 2, 2);
        court.run(0, 0, 2);
        court.take(2);
        court.tell(51, 2);
        court.toss(4);
        manyIs(court, 5, 2, 9, 1, 2, 0, 1, 3, 1, 5);
        Check.fails("many(10)", ARGUMENT, court, () -> court.many(10));
        Check.fails("many(-1)", ARGUMENT, court, () -> court.many(-1));
        Check.fails("many(min)", ARGUMENT, court, () -> court.many(Integer.MIN_VALUE));
    }

    private static void tired() {
        Cascadecourt court = new Cascadecourt();
        court.toss(0);
        Check.that("tired: 0.0 at least", 0.0, court.tired());
        court.take(2);
        court.toss(3);
        Check.that("tired by 3", 0.375, court.tired());
        court.toss(1);
        Check.that("tired by 1", 0.5, court.tired());
        court.toss(9);
        Check.that("tired by 9", 1.625, court.tired());
        court.toss(0);
        Check.that("tired by a SLIP with a prop", 1.375, court.tired());
        court.toss(0);
        Check.that("tired by 0 without one", 1.125, court.tired());
        court.toss(8);
        Check.that("tired by a SLIP without one", 0.875, court.tired());
        court.pick();
        Check.that("tired: not by pick()", 0.875, court.tired());
        court.take(1);
        Check.that("tired: forgotten by take()", 0.0, court.tired());
        court.toss(1);
        Check.that("tired: 0.125", 0.125, court.tired());
        court.toss(0);
        Check.that("tired: 0.125 less 0.25", 0.0, court.tired());
    }

    private static void high() {
        double[] due = {0.0, 0.0, 0.0, 0.25, 0.75, 1.25, 2.0, 2.75, 3.75, 5.0};
        for (int height = 0; height < due.length; height++) {
            Check.that("high of " + height, due[height], courtWith("" + height).high(0));
        }
        Cascadecourt court = courtWith("171", "00", "123");
        Check.that("high of 171", 2.75, court.high(0));
        Check.that("high of 00", 0.0, court.high(1));
        Check.that("high of 123", 0.25, court.high(2));
        Check.fails("high(3)", INDEX, court, () -> court.high(3));
        Check.fails("high(-1)", INDEX, court, () -> court.high(-1));
    }
}
