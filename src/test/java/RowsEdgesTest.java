/** The boundary cases that promises 1 to 7 name: a test for each sentence. */
public final class RowsEdgesTest {
    private static final String NEW = "Promise 1: A new object";
    private static final String TELL = "Promise 2: tell";
    private static final String SHIFT = "Promise 3: shift";
    private static final String SWAP = "Promise 4: swap";
    private static final String RAISE = "Promise 5: raise";
    private static final String TURN = "Promise 6: turn";
    private static final String JOIN = "Promise 7: join";
    private static final String NO_SUCH_ROW = "Throws IndexOutOfBoundsException if there is no such ROW";
    private static final String NO_SUCH_OF_BOTH = NO_SUCH_ROW + ", of both";
    private static final String NO_THROW = "Throws IllegalStateException if a THROW would not be 0 to 9";

    public static void main(String[] args) {
        newObject();
        tell();
        shift();
        swap();
        raise();
        turn();
        join();
        Check.end("RowsEdgesTest");
    }

    private static void newObject() {
        withoutRowsAndProps();
        withoutRowsEachCallRefuses();
        withoutWhatAnotherObjectHas();
    }

    private static void tell() {
        tellDigitsMissing();
        tellNumber();
        tellBelowNone();
        tellLength();
        tellMoreDigits();
        tellNinth();
    }

    private static void shift() {
        shiftModuloLength();
        shiftWhetherAnother();
        shiftNoSuchRow();
        shiftBy();
    }

    private static void swap() {
        swapLandings();
        swapSmallerNumber();
        swapNoSuchRow();
        swapNoSuchSite();
        swapTheSame();
        swapNoThrow();
    }

    private static void raise() {
        raiseAll();
        raiseSum();
        raiseNoSuchRow();
        raiseBy();
        raiseNoThrow();
    }

    private static void turn() {
        turnModuloLength();
        turnWhetherAnother();
        turnNoSuchRow();
        turnNotSound();
    }

    private static void join() {
        joinTheSame();
        joinLength();
        joinNoSuchRow();
        joinTooLong();
    }

    private static void textIs(Cascadecourt court, int row, String due) {
        Check.that("the THROWS of ROW " + row, due, court.text(row));
    }

    private static void withoutRowsAndProps() {
        Check.sentence(NEW, "Creates a court without ROWS and props.");
        Cascadecourt court = new Cascadecourt();
        Answers.many(court, 0, 0, 0, 0, 0, 0, 0, 0, -1, 0);
        Check.that("tired", 0.0, court.tired());
        Check.that("would(0)", 0, court.would(0));
        Check.that("would(9)", -1, court.would(9));
        Check.that("count(1, 0)", 1, court.count(1, 0));
        Check.fails("ofProp(0, 0)", Check.INDEX, court, () -> court.ofProp(0, 0));
        Check.keepsAll("pick()", -1, court, court::pick);
        Check.that("the first ROW", 0, court.tell(0, 1));
    }

    private static void withoutRowsEachCallRefuses() {
        Check.sentence(NEW, "Creates a court without ROWS and props.");
        Cascadecourt court = new Cascadecourt();
        Check.fails("shift", Check.INDEX, court, () -> court.shift(0, 0));
        Check.fails("swap", Check.INDEX, court, () -> court.swap(0, 0, 0));
        Check.fails("raise", Check.INDEX, court, () -> court.raise(0, 0));
        Check.fails("turn", Check.INDEX, court, () -> court.turn(0));
        Check.fails("join", Check.INDEX, court, () -> court.join(0, 0));
        Check.fails("run", Check.INDEX, court, () -> court.run(0, 0, 1));
        Check.fails("ofRow", Check.INDEX, court, () -> court.ofRow(0, 0));
        Check.fails("ofSite", Check.INDEX, court, () -> court.ofSite(0, 0, 0));
        Check.fails("text", Check.INDEX, court, () -> court.text(0));
        Check.fails("high", Check.INDEX, court, () -> court.high(0));
        Check.fails("way", Check.INDEX, court, () -> court.way(0));
        Check.fails("first", Check.INDEX, court, () -> court.first(0));
        Check.fails("alike", Check.INDEX, court, () -> court.alike(0, 0));
    }

    private static void withoutWhatAnotherObjectHas() {
        Check.sentence(NEW, "Creates a court without ROWS and props.");
        String before = Courts.all(new Cascadecourt());
        Cascadecourt other = Courts.withEight("12345678");
        other.take(6);
        Courts.tossAll(other, 9, 0, 1, 5);
        Check.that("a new one, with another one about", before, Courts.all(new Cascadecourt()));
    }

    private static void tellDigitsMissing() {
        Check.sentence(TELL, "(digits that are missing in front are 0)");
        int[] told = {0, 0, 7, 51, 51, 1234567, 12345678, 9};
        int[] lengths = {1, 8, 8, 2, 3, 8, 8, 1};
        String[] due = {"0", "00000000", "00000007", "51", "051", "01234567", "12345678", "9"};
        Cascadecourt court = new Cascadecourt();
        for (int row = 0; row < due.length; row++) {
            court.tell(told[row], lengths[row]);
            textIs(court, row, due[row]);
        }
    }

    private static void tellNumber() {
        Check.sentence(TELL, "Returns its number.");
        Cascadecourt court = new Cascadecourt();
        for (int row = 0; row < 8; row++) {
            Check.that("the ROW " + row, row, court.tell(row, 1));
            if (row == 3) {
                // What is refused takes no number, and a ROW that is joined keeps its own.
                Check.fails("tell(10, 1)", Check.ARGUMENT, court, () -> court.tell(10, 1));
                court.join(0, 1);
            }
        }
        textIs(court, 0, "01");
        textIs(court, 7, "7");
    }

    private static void tellBelowNone() {
        Check.sentence(TELL, "Throws IllegalArgumentException if throwsTold is below 0");
        Cascadecourt court = Courts.with("3");
        Edges.refused("tell(.., 1)", Check.ARGUMENT, court, (it, told) -> it.tell(told, 1), -1, -9, Integer.MIN_VALUE);
        Edges.refused("tell(.., 8)", Check.ARGUMENT, court, (it, told) -> it.tell(told, 8), -1, Integer.MIN_VALUE);
        Edges.taken("tell(.., 1)", Cascadecourt::new, (it, told) -> it.tell(told, 1), 0);
    }

    private static void tellLength() {
        Check.sentence(TELL, "length not 1 to 8");
        Edges.range("tell(0, ..)", Cascadecourt::new, 1, 8, (it, length) -> it.tell(0, length));
        Edges.refused("tell(5, ..)", Check.ARGUMENT, new Cascadecourt(), (it, length) -> it.tell(5, length), 0, 9, 10);
    }

    private static void tellMoreDigits() {
        Check.sentence(TELL, "or throwsTold has more digits than that");
        int tooMany = 1;
        for (int length = 1; length <= 8; length++) {
            tooMany *= 10;
            int sites = length;
            Edges.taken("tell(.., " + sites + ")", Cascadecourt::new, (it, told) -> it.tell(told, sites), tooMany - 1);
            Edges.refused("tell(.., " + sites + ")", Check.ARGUMENT, new Cascadecourt(),
                    (it, told) -> it.tell(told, sites), tooMany, tooMany + 1, Integer.MAX_VALUE);
        }
    }

    private static void tellNinth() {
        Check.sentence(TELL, "Throws IllegalStateException if there are 8");
        Cascadecourt court = Courts.with("0", "1", "2", "3", "4", "5", "6");
        Check.that("the eighth", 7, court.tell(7, 1));
        Check.fails("the ninth", Check.STATE, court, () -> court.tell(8, 1));
        court.join(6, 7);
        Check.fails("the ninth behind join()", Check.STATE, court, () -> court.tell(8, 1));
        textIs(court, 7, "7");
    }

    private static void shiftModuloLength() {
        Check.sentence(SHIFT, "the SITE k gets what the SITE k and that number had (modulo LENGTH).");
        String[] rows = {"12345678", "12345678", "12345678", "12", "123", "5", "1234567"};
        int[] by = {0, 1, 7, 7, 4, 7, 7};
        String[] due = {"12345678", "23456781", "81234567", "21", "231", "5", "1234567"};
        Cascadecourt court = Courts.with(rows);
        for (int row = 0; row < rows.length; row++) {
            court.shift(row, by[row]);
            textIs(court, row, due[row]);
        }
    }

    private static void shiftWhetherAnother() {
        Check.sentence(SHIFT, "Returns whether any THROW of it is another one than before.");
        Cascadecourt court = Courts.with("123", "5", "4242", "9990", "10000000", "00000000");
        Check.that("123 by 0", false, court.shift(0, 0));
        Check.that("123 by LENGTH", false, court.shift(0, 3));
        Check.that("123 by twice LENGTH", false, court.shift(0, 6));
        Check.that("123 by twice LENGTH and 1", true, court.shift(0, 7));
        Check.that("one SITE by 7", false, court.shift(1, 7));
        Check.that("4242 by 2", false, court.shift(2, 2));
        Check.that("4242 by 3", true, court.shift(2, 3));
        Check.that("9990 by 1: two of four are others", true, court.shift(3, 1));
        Check.that("10000000 by 7", true, court.shift(4, 7));
        Check.that("00000000 by 7", false, court.shift(5, 7));
    }

    private static void shiftNoSuchRow() {
        Check.sentence(SHIFT, NO_SUCH_ROW);
        Edges.noSuchRow("shift(.., 1)", "123", (it, row) -> it.shift(row, 1));
    }

    private static void shiftBy() {
        Check.sentence(SHIFT, "Throws IllegalArgumentException if by is not 0 to 7");
        Edges.range("shift(0, ..)", () -> Courts.with("123"), 0, 7, (it, by) -> it.shift(0, by));
        Edges.range("shift(0, ..) of one SITE", () -> Courts.with("5"), 0, 7, (it, by) -> it.shift(0, by));
    }

    private static void swapLandings() {
        Check.sentence(SWAP, "with SITES i below j, i gets the THROW of j, and j - i more; "
                + "j gets that of i, less j - i.");
        Cascadecourt court = Courts.with("70000002", "33", "08");
        Check.that("the first and the last one of eight", 9, court.swap(0, 0, 7));
        textIs(court, 0, "90000000");
        Check.that("and back", 7, court.swap(0, 0, 7));
        textIs(court, 0, "70000002");
        Check.that("two that stand side by side", 4, court.swap(1, 0, 1));
        textIs(court, 1, "42");
    }

    private static void swapSmallerNumber() {
        Check.sentence(SWAP, "Returns the THROW of the one with the smaller number then.");
        Cascadecourt court = Courts.with("70000002", "333");
        Check.that("the last one named first", 9, court.swap(0, 7, 0));
        textIs(court, 0, "90000000");
        Check.that("the SITES 2 and 1", 4, court.swap(1, 2, 1));
        textIs(court, 1, "342");
    }

    private static void swapNoSuchRow() {
        Check.sentence(SWAP, NO_SUCH_ROW);
        Edges.noSuchRow("swap(.., 0, 1)", "33", (it, row) -> it.swap(row, 0, 1));
    }

    private static void swapNoSuchSite() {
        Check.sentence(SWAP, "or SITE of it, of both");
        int[] missing = {-1, 3, 7, 8, Integer.MIN_VALUE, Integer.MAX_VALUE};
        Cascadecourt court = Courts.with("333", "33333333", "3");
        Edges.refused("swap(0, .., 0)", Check.INDEX, court, (it, site) -> it.swap(0, site, 0), missing);
        Edges.refused("swap(0, 0, ..)", Check.INDEX, court, (it, site) -> it.swap(0, 0, site), missing);
        Edges.refused("swap(0, .., ..)", Check.INDEX, court, (it, site) -> it.swap(0, site, site), missing);
        Edges.refused("swap(1, 7, ..)", Check.INDEX, court, (it, site) -> it.swap(1, 7, site), -1, 8);
        Edges.refused("swap(2, 0, ..)", Check.INDEX, court, (it, site) -> it.swap(2, 0, site), -1, 1);
        Edges.taken("swap(0, .., 1)", () -> Courts.with("333"), (it, site) -> it.swap(0, site, 1), 0, 2);
        Edges.taken("swap(1, .., 6)", () -> Courts.with("3", "33333333"), (it, site) -> it.swap(1, site, 6), 7);
    }

    private static void swapTheSame() {
        Check.sentence(SWAP, "Throws IllegalArgumentException if both are the same");
        Cascadecourt court = Courts.with("333", "3", "99999999");
        Edges.refused("swap(0, .., ..)", Check.ARGUMENT, court, (it, site) -> it.swap(0, site, site), 0, 1, 2);
        Edges.refused("swap(1, .., ..)", Check.ARGUMENT, court, (it, site) -> it.swap(1, site, site), 0);
        Edges.refused("swap(2, .., ..)", Check.ARGUMENT, court, (it, site) -> it.swap(2, site, site), 7);
    }

    private static void swapNoThrow() {
        Check.sentence(SWAP, NO_THROW);
        Cascadecourt court = Courts.with("19", "08", "09", "18", "10000003", "80000001");
        Check.fails("19: 10 and 0", Check.STATE, court, () -> court.swap(0, 0, 1));
        Check.fails("08: 9 and -1", Check.STATE, court, () -> court.swap(1, 0, 1));
        Check.fails("08, the other way round", Check.STATE, court, () -> court.swap(1, 1, 0));
        Check.fails("09: 10 and -1", Check.STATE, court, () -> court.swap(2, 0, 1));
        Check.that("18: 9 and 0", 9, court.swap(3, 0, 1));
        textIs(court, 3, "90");
        Check.fails("10000003: 10 and -6", Check.STATE, court, () -> court.swap(4, 0, 7));
        Check.that("80000001: 8 and 1", 8, court.swap(5, 0, 7));
        textIs(court, 5, "80000001");
    }

    private static void raiseAll() {
        Check.sentence(RAISE, "(below 0 to lower them)");
        Cascadecourt court = Courts.with("0", "9", "12345678", "00000000");
        court.raise(0, 9);
        textIs(court, 0, "9");
        court.raise(1, -9);
        textIs(court, 1, "0");
        court.raise(2, -1);
        textIs(court, 2, "01234567");
        court.raise(2, 2);
        textIs(court, 2, "23456789");
        court.raise(2, 0);
        textIs(court, 2, "23456789");
        court.raise(3, 9);
        textIs(court, 3, "99999999");
    }

    private static void raiseSum() {
        Check.sentence(RAISE, "Returns the sum of its THROWS then.");
        Cascadecourt court = Courts.with("00000000", "09", "5");
        Check.that("eight from 0 to 9", 72, court.raise(0, 9));
        Check.that("eight from 9 to 0", 0, court.raise(0, -9));
        Check.that("09 by 0", 9, court.raise(1, 0));
        Check.that("5 by 4", 9, court.raise(2, 4));
        Check.that("9 by -8", 1, court.raise(2, -8));
    }

    private static void raiseNoSuchRow() {
        Check.sentence(RAISE, NO_SUCH_ROW);
        Edges.noSuchRow("raise(.., 1)", "123", (it, row) -> it.raise(row, 1));
    }

    private static void raiseBy() {
        Check.sentence(RAISE, "Throws IllegalArgumentException if by is not -9 to 9");
        Cascadecourt court = Courts.with("0", "9", "55");
        Edges.taken("raise(0, ..)", () -> Courts.with("0"), (it, by) -> it.raise(0, by), 0, 9);
        Edges.taken("raise(1, ..)", () -> Courts.with("0", "9"), (it, by) -> it.raise(1, by), -9, 0);
        for (int row = 0; row < 3; row++) {
            int told = row;
            Edges.refused("raise(" + row + ", ..)", Check.ARGUMENT, court, (it, by) -> it.raise(told, by),
                    10, -10, Integer.MAX_VALUE, Integer.MIN_VALUE);
        }
    }

    private static void raiseNoThrow() {
        Check.sentence(RAISE, NO_THROW);
        String[] rows = {"09", "90000000", "00000009", "1", "8"};
        Cascadecourt court = Courts.with(rows);
        for (int row = 0; row < 3; row++) {
            int told = row;
            Edges.refused("raise " + rows[row], Check.STATE, court, (it, by) -> it.raise(told, by), 1, -1, 9, -9);
        }
        Edges.refused("raise 1", Check.STATE, court, (it, by) -> it.raise(3, by), 9, -2, -9);
        Edges.refused("raise 8", Check.STATE, court, (it, by) -> it.raise(4, by), 2, 9, -9);
        Check.that("1 by 8", 9, court.raise(3, 8));
        Check.that("8 by -8", 0, court.raise(4, -8));
    }

    private static void turnModuloLength() {
        Check.sentence(TURN, "a prop that went from the beat a to b goes from -b to -a; "
                + "the SITE 0 stays the beat 0 (modulo LENGTH).");
        // 8 from 0 to 8: from -8 (SITE 0). 8 from 1 to 9: from -9 (SITE 7). 1 from 7 to 8, 7 from 0 to 7: from -8, -7.
        String[] rows = {"80000000", "08000000", "00000008", "70000001", "51", "9111", "97531", "20"};
        String[] due = {"80000000", "00000008", "08000000", "17000000", "15", "1119", "19753", "20"};
        Cascadecourt court = Courts.with(rows);
        for (int row = 0; row < rows.length; row++) {
            court.turn(row);
            textIs(court, row, due[row]);
            court.turn(row);
            textIs(court, row, rows[row]);
        }
    }

    private static void turnWhetherAnother() {
        Check.sentence(TURN, "Returns whether any THROW of it is another one than before.");
        Cascadecourt court = Courts.with("0", "9", "00000000", "99999999", "80000000", "08000000", "51", "00080000");
        boolean[] due = {false, false, false, false, false, true, true, true};
        for (int row = 0; row < due.length; row++) {
            Check.that("turn " + court.text(row), due[row], court.turn(row));
        }
        textIs(court, 7, "00000800");
    }

    private static void turnNoSuchRow() {
        Check.sentence(TURN, NO_SUCH_ROW);
        Edges.noSuchRow("turn", "441", (it, row) -> it.turn(row));
    }

    private static void turnNotSound() {
        Check.sentence(TURN, "Throws IllegalStateException if it is not SOUND");
        Cascadecourt court = Courts.with("10", "321", "90000000", "00000009", "6040", "99999998", "3450", "441");
        Edges.refused("turn", Check.STATE, court, (it, row) -> it.turn(row), 0, 1, 2, 3, 4, 5, 6);
        Check.that("turn one that is SOUND", true, court.turn(7));
        court.swap(7, 0, 1);
        Check.answers("turn one that is SOUND still", () -> court.turn(7));
        court.join(7, 0);
        Check.fails("turn one that is no more SOUND", Check.STATE, court, () -> court.turn(7));
    }

    private static void joinTheSame() {
        Check.sentence(JOIN, "(it stays as it is; it can be the same, that is there twice then)");
        Cascadecourt court = Courts.with("1234", "5", "678");
        Check.that("1234 twice", 8, court.join(0, 0));
        textIs(court, 0, "12341234");
        Check.that("5 twice", 2, court.join(1, 1));
        textIs(court, 1, "55");
        Check.that("55 behind 678", 5, court.join(2, 1));
        textIs(court, 2, "67855");
        textIs(court, 1, "55");
    }

    private static void joinLength() {
        Check.sentence(JOIN, "Returns LENGTH then.");
        Cascadecourt court = Courts.with("1", "2", "3456789", "1");
        Check.that("1 and 1", 2, court.join(0, 1));
        Check.that("7 and 1", 8, court.join(2, 1));
        textIs(court, 2, "34567892");
        Check.that("as asked", 8, court.ofRow(2, 0));
        Check.that("the last SITE", 2, court.ofSite(2, 7, 0));
        Check.that("ROWS", 4, court.many(0));
    }

    private static void joinNoSuchRow() {
        Check.sentence(JOIN, NO_SUCH_OF_BOTH);
        Edges.noSuchRow("join(.., 0)", "12", (it, row) -> it.join(row, 0));
        Edges.noSuchRow("join(0, ..)", "12", (it, row) -> it.join(0, row));
        Edges.noSuchRow("join(.., ..)", "12", (it, row) -> it.join(row, row));
    }

    private static void joinTooLong() {
        Check.sentence(JOIN, "Throws IllegalStateException if LENGTH would be more than 8");
        Cascadecourt court = Courts.with("12345678", "1", "1234", "12345", "1234");
        Check.fails("8 and 1", Check.STATE, court, () -> court.join(0, 1));
        Check.fails("1 and 8", Check.STATE, court, () -> court.join(1, 0));
        Check.fails("8 and 8", Check.STATE, court, () -> court.join(0, 0));
        Check.fails("4 and 5", Check.STATE, court, () -> court.join(2, 3));
        Check.fails("5 and 4", Check.STATE, court, () -> court.join(3, 2));
        Check.fails("5 and 5", Check.STATE, court, () -> court.join(3, 3));
        Check.that("4 and 4", 8, court.join(2, 4));
        Check.fails("8 behind 1 behind join()", Check.STATE, court, () -> court.join(1, 2));
    }
}
