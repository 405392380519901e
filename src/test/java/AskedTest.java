/** Promises 12 to 18: what is asked of ROWS, SITES, props and the juggler. */
public final class AskedTest {
    public static void main(String[] args) {
        ofRow();
        ofRowWrong();
        ofSite();
        ofSiteWrong();
        text();
        ofProp();
        many();
        tired();
        high();
        Check.end("AskedTest");
    }

    private static void ofRow() {
        Answers.ofRow("3", 1, 1, 3, 3, 1, 1, 1, 1, 1, 3);
        Answers.ofRow("0", 1, 1, 0, 0, 0, 0, 1, 1, 1, 0);
        Answers.ofRow("1", 1, 1, 1, 1, 1, 1, 1, 1, 1, 1);
        Answers.ofRow("9", 1, 1, 9, 9, 1, 1, 1, 1, 1, 9);
        Answers.ofRow("441", 3, 1, 3, 4, 1, 1, 1, 1, 3, 9);
        Answers.ofRow("51", 2, 1, 3, 5, 2, 1, 1, 0, 2, 6);
        Answers.ofRow("97531", 5, 1, 5, 9, 5, 3, 1, 1, 5, 10);
        Answers.ofRow("531", 3, 1, 3, 5, 3, 2, 1, 1, 3, 6);
        Answers.ofRow("333", 3, 1, 3, 3, 3, 3, 0, 1, 1, 3);
        // One SITE too many at the GROUND, in front or at the end: not PRIME.
        Answers.ofRow("3441", 4, 1, 3, 4, 2, 3, 0, 1, 4, 4);
        Answers.ofRow("4413", 4, 1, 3, 4, 2, 3, 0, 1, 4, 4);
        Answers.ofRow("0000", 4, 1, 0, 0, 0, 0, 0, 1, 1, 0);
        Answers.ofRow("4242", 4, 1, 3, 4, 0, 3, 0, 1, 2, 4);
        Answers.ofRow("6040", 4, 0, -1, 6, 0, -1, -1, -1, 4, -1);
        Answers.ofRow("3131", 4, 1, 2, 3, 4, 2, 0, 1, 2, 4);
        Answers.ofRow("321", 3, 0, -1, 3, 2, -1, -1, -1, 3, -1);
        Answers.ofRow("5050", 4, 0, -1, 5, 2, -1, -1, -1, 2, -1);
        Answers.ofRow("21", 2, 0, -1, 2, 1, -1, -1, -1, 2, -1);
        Answers.ofRow("40", 2, 1, 2, 4, 0, 1, 1, 0, 2, 4);
        Answers.ofRow("3340", 4, 0, -1, 4, 2, -1, -1, -1, 4, -1);
        Answers.ofRow("12121212", 8, 0, -1, 2, 4, -1, -1, -1, 2, -1);
        Answers.ofRow("11111112", 8, 0, -1, 2, 7, -1, -1, -1, 8, -1);
        Answers.ofRow("11121112", 8, 0, -1, 2, 6, -1, -1, -1, 4, -1);
        Answers.ofRow("44144144", 8, 0, -1, 4, 2, -1, -1, -1, 8, -1);
    }

    private static void ofRowWrong() {
        Cascadecourt court = Courts.with("3", "441");
        Check.that("ofRow(1, 0)", 3, court.ofRow(1, 0));
        Check.fails("ofRow(2, 0)", Check.INDEX, court, () -> court.ofRow(2, 0));
        Check.fails("ofRow(-1, 0)", Check.INDEX, court, () -> court.ofRow(-1, 0));
        Check.fails("ofRow(8, 0)", Check.INDEX, court, () -> court.ofRow(8, 0));
        Check.fails("ofRow(0, 10)", Check.ARGUMENT, court, () -> court.ofRow(0, 10));
        Check.fails("ofRow(0, -1)", Check.ARGUMENT, court, () -> court.ofRow(0, -1));
        Check.fails("ofRow(2, 10)", Check.INDEX, court, () -> court.ofRow(2, 10));
    }

    private static void ofSite() {
        Answers.ofSites("97531", 0, 9, 7, 5, 3, 1);
        Answers.ofSites("97531", 1, 4, 3, 2, 1, 0);
        Answers.ofSites("97531", 2, 31, 271, 199, 115, 61);
        Answers.ofSites("97531", 3, 10, 10, 5, 10, 10);
        Answers.ofSites("97531", 4, 2, 2, 1, 2, 2);
        Answers.ofSites("531", 2, 7, 19, 13);
        Answers.ofSites("441", 1, 1, 2, 0);
        Answers.ofSites("441", 3, 9, 9, 9);
        Answers.ofSites("441", 4, 3, 3, 3);
        Answers.ofSites("51", 2, 11, 21);
        Answers.ofSites("4400", 0, 4, 4, 0, 0);
        Answers.ofSites("4400", 1, 0, 1, 2, 3);
        Answers.ofSites("4400", 2, 3, 9, 12, 6);
        Answers.ofSites("4400", 3, 4, 4, 0, 0);
        Answers.ofSites("4400", 4, 1, 1, 0, 0);
        Answers.ofSites("6040", 0, 6, 0, 4, 0);
        Answers.ofSites("6040", 1, 2, 1, 2, 3);
        Answers.ofSites("6040", 2, -1, -1, -1, -1);
        Answers.ofSites("6040", 3, -1, -1, -1, -1);
        Answers.ofSites("6040", 4, -1, -1, -1, -1);
        Answers.ofSites("9", 2, 511);
        Answers.ofSites("0", 2, 0);
        Answers.ofSites("1", 2, 1);
        Answers.ofSites("90000000", 1, 1);
        Answers.ofSites("3", 3, 3);
        Answers.ofSites("3", 4, 3);
        Answers.ofSites("0", 3, 0);
        Answers.ofSites("0", 4, 0);
        Answers.ofSites("1", 4, 1);
    }

    private static void ofSiteWrong() {
        Cascadecourt court = Courts.with("441", "3");
        Check.fails("ofSite(2, 0, 0)", Check.INDEX, court, () -> court.ofSite(2, 0, 0));
        Check.fails("ofSite(-1, 0, 0)", Check.INDEX, court, () -> court.ofSite(-1, 0, 0));
        Check.fails("ofSite(0, 3, 0)", Check.INDEX, court, () -> court.ofSite(0, 3, 0));
        Check.fails("ofSite(1, 1, 0)", Check.INDEX, court, () -> court.ofSite(1, 1, 0));
        Check.fails("ofSite(0, -1, 0)", Check.INDEX, court, () -> court.ofSite(0, -1, 0));
        Check.fails("ofSite(0, 0, 5)", Check.ARGUMENT, court, () -> court.ofSite(0, 0, 5));
        Check.fails("ofSite(0, 0, -1)", Check.ARGUMENT, court, () -> court.ofSite(0, 0, -1));
        Check.fails("ofSite(0, 3, 5)", Check.INDEX, court, () -> court.ofSite(0, 3, 5));
    }

    private static void text() {
        Cascadecourt court = Courts.with("0", "007", "98765432");
        Check.that("text(0)", "0", court.text(0));
        Check.that("text(1)", "007", court.text(1));
        Check.that("text(2)", "98765432", court.text(2));
        Check.fails("text(3)", Check.INDEX, court, () -> court.text(3));
        Check.fails("text(-1)", Check.INDEX, court, () -> court.text(-1));
        Check.fails("text(max)", Check.INDEX, court, () -> court.text(Integer.MAX_VALUE));
    }

    private static void ofProp() {
        Cascadecourt court = new Cascadecourt();
        Check.fails("ofProp without props", Check.INDEX, court, () -> court.ofProp(0, 0));
        court.take(3);
        Answers.ofProp(court, 0, 0, 0, 0, 0);
        Answers.ofProp(court, 1, 1, 0, 0, 1);
        Answers.ofProp(court, 2, 2, 0, 0, 0);
        court.toss(4);
        Answers.ofProp(court, 0, 3, 1, 0, 0);
        Answers.ofProp(court, 1, 0, 0, 0, 1);
        court.toss(9);
        Answers.ofProp(court, 1, 8, 1, 0, 0);
        court.toss(2);
        // The prop 0 lands at the beat 4, as 2 does: both are DROPPED.
        Answers.ofProp(court, 0, -1, 1, 1, -1);
        Answers.ofProp(court, 1, 7, 1, 0, 0);
        Answers.ofProp(court, 2, -1, 0, 1, -1);
        court.pick();
        Answers.ofProp(court, 0, 0, 1, 1, 1);
        court.toss(0);
        Answers.ofProp(court, 0, -1, 1, 2, -1);
        Check.fails("ofProp(3, 0)", Check.INDEX, court, () -> court.ofProp(3, 0));
        Check.fails("ofProp(-1, 0)", Check.INDEX, court, () -> court.ofProp(-1, 0));
        Check.fails("ofProp(6, 0)", Check.INDEX, court, () -> court.ofProp(6, 0));
        Check.fails("ofProp(0, 4)", Check.ARGUMENT, court, () -> court.ofProp(0, 4));
        Check.fails("ofProp(0, -1)", Check.ARGUMENT, court, () -> court.ofProp(0, -1));
        Check.fails("ofProp(3, 4)", Check.INDEX, court, () -> court.ofProp(3, 4));
    }

    private static void many() {
        Cascadecourt court = Courts.with("441", "321", "0", "6040");
        Answers.many(court, 4, 0, 0, 0, 0, 0, 0, 2, -1, 0);
        court.take(4);
        Answers.many(court, 4, 4, 15, 0, 0, 0, 0, 2, 0, 0);
        court.toss(5);
        Answers.many(court, 4, 4, 23, 1, 0, 0, 1, 2, 1, 1);
        court.toss(2);
        Answers.many(court, 4, 4, 9, 2, 1, 2, 1, 2, 2, 2);
        court.run(0, 0, 2);
        court.take(2);
        court.tell(51, 2);
        court.toss(4);
        Answers.many(court, 5, 2, 9, 1, 2, 0, 1, 3, 1, 5);
        Check.fails("many(10)", Check.ARGUMENT, court, () -> court.many(10));
        Check.fails("many(-1)", Check.ARGUMENT, court, () -> court.many(-1));
        Check.fails("many(min)", Check.ARGUMENT, court, () -> court.many(Integer.MIN_VALUE));
    }

    private static void tired() {
        Cascadecourt court = new Cascadecourt();
        court.toss(0);
        Check.that("tired: 0.0 at least", 0.0, court.tired());
        court.take(2);
        court.toss(3);
        Check.that("tired by 3", 0.375, court.tired());
        court.toss(1);
        Check.that("tired by 1", 0.5, court.tired());
        court.toss(9);
        Check.that("tired by 9", 1.625, court.tired());
        court.toss(0);
        Check.that("tired by a SLIP with a prop", 1.375, court.tired());
        court.toss(0);
        Check.that("tired by 0 without one", 1.125, court.tired());
        court.toss(8);
        Check.that("tired by a SLIP without one", 0.875, court.tired());
        court.pick();
        Check.that("tired: not by pick()", 0.875, court.tired());
        court.take(1);
        Check.that("tired: forgotten by take()", 0.0, court.tired());
        court.toss(1);
        Check.that("tired: 0.125", 0.125, court.tired());
        court.toss(0);
        Check.that("tired: 0.125 less 0.25", 0.0, court.tired());
    }

    private static void high() {
        double[] due = {0.0, 0.0, 0.0, 0.25, 0.75, 1.25, 2.0, 2.75, 3.75, 5.0};
        for (int height = 0; height < due.length; height++) {
            Check.that("high of " + height, due[height], Courts.with("" + height).high(0));
        }
        Cascadecourt court = Courts.with("171", "00", "123");
        Check.that("high of 171", 2.75, court.high(0));
        Check.that("high of 00", 0.0, court.high(1));
        Check.that("high of 123", 0.25, court.high(2));
        Check.fails("high(3)", Check.INDEX, court, () -> court.high(3));
        Check.fails("high(-1)", Check.INDEX, court, () -> court.high(-1));
    }
}
