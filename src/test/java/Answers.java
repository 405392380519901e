/** Answers that are due to one question after another. */
final class Answers {
    private Answers() {
    }

    /** Of many(): to the questions from 0 on. */
    static void many(Cascadecourt court, int... due) {
        for (int what = 0; what < due.length; what++) {
            Check.that("many(" + what + ")", due[what], court.many(what));
        }
    }

    /** Of ofRow() about that ROW: to the questions from 0 on. */
    static void ofRow(String row, int... due) {
        Cascadecourt court = Courts.with(row);
        for (int what = 0; what < due.length; what++) {
            Check.that("ofRow of " + row + ", " + what, due[what], court.ofRow(0, what));
        }
    }

    /** Of ofRow(): to one question, a ROW and its answer after another. */
    static void ofRows(int what, Object... rowsAndAnswers) {
        for (int at = 0; at + 1 < rowsAndAnswers.length; at += 2) {
            String row = (String) rowsAndAnswers[at];
            Check.that("ofRow of " + row + ", " + what, rowsAndAnswers[at + 1], Courts.with(row).ofRow(0, what));
        }
    }

    /** Of ofSite() about that ROW: to one question, SITE by SITE. */
    static void ofSites(String row, int what, int... due) {
        Cascadecourt court = Courts.with(row);
        for (int site = 0; site < due.length; site++) {
            Check.that("ofSite of " + row + ", " + site + ", " + what, due[site], court.ofSite(0, site, what));
        }
    }

    /** Of ofProp() about that prop: to the questions from 0 on. */
    static void ofProp(Cascadecourt court, int prop, int... due) {
        for (int what = 0; what < due.length; what++) {
            Check.that("ofProp(" + prop + ", " + what + ")", due[what], court.ofProp(prop, what));
        }
    }

    /** Of ofProp(): to one question, prop by prop. */
    static void ofProps(Cascadecourt court, int what, int... due) {
        for (int prop = 0; prop < due.length; prop++) {
            Check.that("ofProp(" + prop + ", " + what + ")", due[prop], court.ofProp(prop, what));
        }
    }
}
