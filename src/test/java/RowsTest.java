/** Promises 1 to 7: a new object, and the calls by which ROWS are told and changed. */
public final class RowsTest {
    public static void main(String[] args) {
        newObject();
        tell();
        shift();
        swap();
        raise();
        turn();
        join();
        changedRows();
        Check.end("RowsTest");
    }

    /** What is asked of the ROW 0 is what is asked of one that is told with the THROWS that it has then. */
    private static void isAsToldAnew(String change, Cascadecourt court) {
        Cascadecourt anew = Courts.with(court.text(0));
        for (int what = 0; what <= 9; what++) {
            Check.that("ofRow " + what + " behind " + change, anew.ofRow(0, what), court.ofRow(0, what));
        }
        for (int site = 0; site < anew.ofRow(0, 0); site++) {
            for (int what = 0; what <= 4; what++) {
                Check.that("ofSite " + site + " " + what + " behind " + change,
                        anew.ofSite(0, site, what), court.ofSite(0, site, what));
            }
        }
    }

    private static void changedRows() {
        Cascadecourt court = Courts.with("97531", "441");
        court.shift(0, 1);
        isAsToldAnew("shift()", court);
        court.turn(0);
        isAsToldAnew("turn()", court);
        court.swap(0, 0, 1);
        isAsToldAnew("swap()", court);
        court.raise(0, -1);
        isAsToldAnew("raise()", court);
        court.join(0, 1);
        isAsToldAnew("join()", court);
        Cascadecourt sound = Courts.with("441", "51");
        sound.join(0, 1);
        isAsToldAnew("join() of two sound ones", sound);
        sound.join(1, 1);
        Check.that("join() of one to itself", 4, sound.ofRow(1, 0));
        Check.that("join(): STATES of both halves", sound.ofSite(1, 0, 2), sound.ofSite(1, 2, 2));
    }

    private static void newObject() {
        Cascadecourt court = new Cascadecourt();
        Answers.many(court, 0, 0, 0, 0, 0, 0, 0, 0, -1, 0);
        Check.that("new: tired()", 0.0, court.tired());
        Check.that("new: pick()", -1, court.pick());
        Check.that("new: would(0)", 0, court.would(0));
        Check.that("new: would(1)", -1, court.would(1));
        Check.fails("new: text(0)", Check.INDEX, court, () -> court.text(0));
        Check.fails("new: ofProp(0, 0)", Check.INDEX, court, () -> court.ofProp(0, 0));
        Cascadecourt other = Courts.with("531");
        other.take(3);
        Check.that("new: another object has its own rows", 0, court.many(0));
        Check.that("new: another object has its own props", 0, court.many(1));
    }

    private static void tell() {
        Cascadecourt court = new Cascadecourt();
        Check.that("tell(441, 3)", 0, court.tell(441, 3));
        Check.that("tell: text", "441", court.text(0));
        Check.that("tell(51, 4)", 1, court.tell(51, 4));
        Check.that("tell: digits missing in front", "0051", court.text(1));
        Check.that("tell(0, 1)", 2, court.tell(0, 1));
        Check.that("tell: 0", "0", court.text(2));
        Check.that("tell(99999999, 8)", 3, court.tell(99999999, 8));
        Check.that("tell: the most", "99999999", court.text(3));
        Check.that("tell(0, 8)", 4, court.tell(0, 8));
        Check.that("tell(9, 1)", 5, court.tell(9, 1));
        Check.fails("tell(-1, 3)", Check.ARGUMENT, court, () -> court.tell(-1, 3));
        Check.fails("tell(min, 8)", Check.ARGUMENT, court, () -> court.tell(Integer.MIN_VALUE, 8));
        Check.fails("tell(0, 0)", Check.ARGUMENT, court, () -> court.tell(0, 0));
        Check.fails("tell(0, -1)", Check.ARGUMENT, court, () -> court.tell(0, -1));
        Check.fails("tell(0, min)", Check.ARGUMENT, court, () -> court.tell(0, Integer.MIN_VALUE));
        Check.fails("tell(1, 9)", Check.ARGUMENT, court, () -> court.tell(1, 9));
        Check.fails("tell(1, max)", Check.ARGUMENT, court, () -> court.tell(1, Integer.MAX_VALUE));
        Check.fails("tell(10, 1)", Check.ARGUMENT, court, () -> court.tell(10, 1));
        Check.fails("tell(1000, 3)", Check.ARGUMENT, court, () -> court.tell(1000, 3));
        Check.fails("tell(100000000, 8)", Check.ARGUMENT, court, () -> court.tell(100000000, 8));
        Check.fails("tell(max, 8)", Check.ARGUMENT, court, () -> court.tell(Integer.MAX_VALUE, 8));
        Check.that("tell(3, 1)", 6, court.tell(3, 1));
        Check.that("tell(97531, 5)", 7, court.tell(97531, 5));
        Check.that("tell: 8 rows", 8, court.many(0));
        Check.fails("tell a ninth", Check.STATE, court, () -> court.tell(3, 1));
        Check.fails("tell a ninth that is none", Check.ARGUMENT, court, () -> court.tell(33, 1));
        Check.that("tell: the first one still", "441", court.text(0));
        Check.that("tell: the last one", "97531", court.text(7));
    }

    private static void shift() {
        Cascadecourt court = Courts.with("12345", "333", "4242", "1");
        Check.that("shift by 2", true, court.shift(0, 2));
        Check.that("shift: text", "34512", court.text(0));
        Check.that("shift by 0", false, court.shift(0, 0));
        Check.that("shift by LENGTH", false, court.shift(0, 5));
        Check.that("shift: text the same", "34512", court.text(0));
        Check.that("shift by 7", true, court.shift(0, 7));
        Check.that("shift: modulo LENGTH", "51234", court.text(0));
        Check.that("shift 333 by 1", false, court.shift(1, 1));
        Check.that("shift 4242 by 2", false, court.shift(2, 2));
        Check.that("shift 4242 by 1", true, court.shift(2, 1));
        Check.that("shift: 2424", "2424", court.text(2));
        Check.that("shift 1 by 7", false, court.shift(3, 7));
        Check.fails("shift(4, 0)", Check.INDEX, court, () -> court.shift(4, 0));
        Check.fails("shift(-1, 0)", Check.INDEX, court, () -> court.shift(-1, 0));
        Check.fails("shift(8, 0)", Check.INDEX, court, () -> court.shift(8, 0));
        Check.fails("shift(0, 8)", Check.ARGUMENT, court, () -> court.shift(0, 8));
        Check.fails("shift(0, -1)", Check.ARGUMENT, court, () -> court.shift(0, -1));
        Check.fails("shift(4, 8)", Check.INDEX, court, () -> court.shift(4, 8));
    }

    private static void swap() {
        Cascadecourt court = Courts.with("333", "90", "09", "5", "1900");
        Check.that("swap(0, 0, 2)", 5, court.swap(0, 0, 2));
        Check.that("swap: text", "531", court.text(0));
        Check.that("swap the other way round", 3, court.swap(0, 2, 0));
        Check.that("swap: back", "333", court.text(0));
        Check.that("swap(0, 2, 1)", 4, court.swap(0, 2, 1));
        Check.that("swap: 342", "342", court.text(0));
        Check.that("swap 90", 1, court.swap(1, 0, 1));
        Check.that("swap: 18", "18", court.text(1));
        Check.fails("swap 09: a THROW of 10", Check.STATE, court, () -> court.swap(2, 0, 1));
        Check.fails("swap 1900: a THROW of -1", Check.STATE, court, () -> court.swap(4, 0, 2));
        Cascadecourt edges = Courts.with("18");
        Check.that("swap 18: to 9 and 0", 9, edges.swap(0, 0, 1));
        Check.that("swap: 90", "90", edges.text(0));
        Check.fails("swap(5, 0, 1)", Check.INDEX, court, () -> court.swap(5, 0, 1));
        Check.fails("swap(-1, 0, 1)", Check.INDEX, court, () -> court.swap(-1, 0, 1));
        Check.fails("swap(0, 0, 3)", Check.INDEX, court, () -> court.swap(0, 0, 3));
        Check.fails("swap(0, 3, 0)", Check.INDEX, court, () -> court.swap(0, 3, 0));
        Check.fails("swap(0, -1, 0)", Check.INDEX, court, () -> court.swap(0, -1, 0));
        Check.fails("swap(0, 0, -1)", Check.INDEX, court, () -> court.swap(0, 0, -1));
        Check.fails("swap(0, 3, 3)", Check.INDEX, court, () -> court.swap(0, 3, 3));
        Check.fails("swap(0, 1, 1)", Check.ARGUMENT, court, () -> court.swap(0, 1, 1));
        Check.fails("swap(3, 0, 0)", Check.ARGUMENT, court, () -> court.swap(3, 0, 0));
    }

    private static void raise() {
        Cascadecourt court = Courts.with("441", "08", "90");
        Check.that("raise 441 by 2", 15, court.raise(0, 2));
        Check.that("raise: text", "663", court.text(0));
        Check.that("raise by 3, to 9", 24, court.raise(0, 3));
        Check.that("raise: 996", "996", court.text(0));
        Check.that("raise by -6, to 0", 6, court.raise(0, -6));
        Check.that("raise: 330", "330", court.text(0));
        Check.that("raise by 0", 6, court.raise(0, 0));
        Check.fails("raise 330 by -1", Check.STATE, court, () -> court.raise(0, -1));
        Check.fails("raise 330 by 7", Check.STATE, court, () -> court.raise(0, 7));
        Check.fails("raise 330 by 9", Check.STATE, court, () -> court.raise(0, 9));
        Check.fails("raise 330 by -9", Check.STATE, court, () -> court.raise(0, -9));
        Check.fails("raise 330 by 10", Check.ARGUMENT, court, () -> court.raise(0, 10));
        Check.fails("raise 330 by -10", Check.ARGUMENT, court, () -> court.raise(0, -10));
        Check.fails("raise 330 by max", Check.ARGUMENT, court, () -> court.raise(0, Integer.MAX_VALUE));
        Check.fails("raise 330 by min", Check.ARGUMENT, court, () -> court.raise(0, Integer.MIN_VALUE));
        Check.that("raise 08 by 1", 10, court.raise(1, 1));
        Check.fails("raise 90 by 1", Check.STATE, court, () -> court.raise(2, 1));
        Check.fails("raise(3, 0)", Check.INDEX, court, () -> court.raise(3, 0));
        Check.fails("raise(-1, 0)", Check.INDEX, court, () -> court.raise(-1, 0));
        Check.fails("raise(3, 10)", Check.INDEX, court, () -> court.raise(3, 10));
        Cascadecourt whole = Courts.with("0", "9");
        Check.that("raise 0 by 9", 9, whole.raise(0, 9));
        Check.that("raise 9 by -9", 0, whole.raise(1, -9));
    }

    private static void turn() {
        Cascadecourt court = Courts.with("97531", "3", "441", "321", "6040", "51", "0", "6020");
        Check.that("turn 97531", true, court.turn(0));
        Check.that("turn: 19753", "19753", court.text(0));
        Check.that("turn back", true, court.turn(0));
        Check.that("turn: 97531", "97531", court.text(0));
        Check.that("turn 3", false, court.turn(1));
        // 441: 0 to 4, 1 to 5, 2 to 3; so -4 (SITE 2), -5 (SITE 1) and -3 (SITE 0).
        Check.that("turn 441", true, court.turn(2));
        Check.that("turn: 144", "144", court.text(2));
        Check.fails("turn 321", Check.STATE, court, () -> court.turn(3));
        Check.fails("turn 6040", Check.STATE, court, () -> court.turn(4));
        // 51: 0 to 5, 1 to 2; so -5 (SITE 1) and -2 (SITE 0).
        Check.that("turn 51", true, court.turn(5));
        Check.that("turn: 15", "15", court.text(5));
        Check.that("turn 0", false, court.turn(6));
        // 6020: 0 to 6, 2 to 4, and none at 1 and 3; so -6 (SITE 2) and -4 (SITE 0).
        Check.that("turn 6020", true, court.turn(7));
        Check.that("turn: 2060", "2060", court.text(7));
        Check.fails("turn(8)", Check.INDEX, court, () -> court.turn(8));
        Check.fails("turn(-1)", Check.INDEX, court, () -> court.turn(-1));
        Cascadecourt two = Courts.with("4400", "3");
        Check.fails("turn(2) of two rows", Check.INDEX, two, () -> two.turn(2));
        // 4400: 0 to 4, 1 to 5, and 0 at 2 and 3; so 4 at SITE 0, 4 at SITE 3.
        Check.that("turn 4400", true, two.turn(0));
        Check.that("turn: 4004", "4004", two.text(0));
    }

    private static void join() {
        Cascadecourt court = Courts.with("441", "51", "1234", "5678");
        Check.that("join(0, 1)", 5, court.join(0, 1));
        Check.that("join: text", "44151", court.text(0));
        Check.that("join: the other one", "51", court.text(1));
        Check.that("join(1, 1)", 4, court.join(1, 1));
        Check.that("join: twice", "5151", court.text(1));
        Check.that("join(2, 3)", 8, court.join(2, 3));
        Check.that("join: to 8", "12345678", court.text(2));
        Check.that("join: the other one has 4", "5678", court.text(3));
        Check.fails("join(0, 3): to 9", Check.STATE, court, () -> court.join(0, 3));
        Check.fails("join(0, 0): to 10", Check.STATE, court, () -> court.join(0, 0));
        Check.fails("join(2, 2)", Check.STATE, court, () -> court.join(2, 2));
        Check.fails("join(4, 0)", Check.INDEX, court, () -> court.join(4, 0));
        Check.fails("join(0, 4)", Check.INDEX, court, () -> court.join(0, 4));
        Check.fails("join(-1, 0)", Check.INDEX, court, () -> court.join(-1, 0));
        Check.fails("join(2, -1)", Check.INDEX, court, () -> court.join(2, -1));
        Check.that("join 5678 twice", 8, court.join(3, 3));
        Check.that("join: 56785678", "56785678", court.text(3));
    }
}
