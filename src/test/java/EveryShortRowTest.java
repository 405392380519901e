/** Every ROW of 1 to 4 THROWS, as it is told and behind each kind of change, against the model. */
public final class EveryShortRowTest {
    private static final int LONGEST = 4;
    private static final int COPIES = 8;

    private final String told;
    private final Cascadecourt court = new Cascadecourt();
    private final Model model = new Model();

    private EveryShortRowTest(String told) {
        this.told = told;
    }

    public static void main(String[] args) {
        int rows = 1;
        for (int length = 1; length <= LONGEST; length++) {
            rows *= 10;
            for (int number = 0; number < rows; number++) {
                String told = String.valueOf(rows + number).substring(1);
                new EveryShortRowTest(told).compare();
            }
        }
        Check.end("EveryShortRowTest");
    }

    private void compare() {
        for (int copy = 0; copy < COPIES; copy++) {
            same("tell", model.tell(Integer.parseInt(told), told.length()),
                    court.tell(Integer.parseInt(told), told.length()));
        }
        changeCopies();
        for (int copy = 0; copy < COPIES; copy++) {
            compareRow(copy);
        }
        compareWay();
    }

    /** The copy 0 stays as it is told; each other one is changed in another way. */
    private void changeCopies() {
        int last = told.length() - 1;
        sameOutcome("shift(1, 1)", () -> model.shift(1, 1), () -> court.shift(1, 1));
        sameOutcome("turn(2)", () -> model.turn(2), () -> court.turn(2));
        sameOutcome("raise(3, 1)", () -> model.raise(3, 1), () -> court.raise(3, 1));
        sameOutcome("raise(4, -1)", () -> model.raise(4, -1), () -> court.raise(4, -1));
        sameOutcome("swap(5, 1, 0)", () -> model.swap(5, 1, 0), () -> court.swap(5, 1, 0));
        sameOutcome("swap(6, 0, " + last + ")", () -> model.swap(6, 0, last), () -> court.swap(6, 0, last));
        sameOutcome("join(7, 1)", () -> model.join(7, 1), () -> court.join(7, 1));
    }

    private void compareRow(int row) {
        same("text of " + row, model.text(row), court.text(row));
        same("high of " + row, model.high(row), court.high(row));
        same("alike of 0 and " + row, model.alike(0, row), court.alike(0, row));
        for (int what = 0; what <= 9; what++) {
            same("ofRow " + row + " " + what, model.ofRow(row, what), court.ofRow(row, what));
        }
        for (int site = 0; site < model.ofRow(row, 0); site++) {
            for (int what = 0; what <= 4; what++) {
                same("ofSite " + row + " " + site + " " + what, model.ofSite(row, site, what),
                        court.ofSite(row, site, what));
            }
        }
    }

    /** From the GROUND of as many props as the ROW has, if one can take them. */
    private void compareWay() {
        int props = model.ofRow(0, 2);
        sameOutcome("take", () -> model.take(props), () -> court.take(props));
        same("way", model.way(0), court.way(0));
        same("first", model.first(0), court.first(0));
    }

    private void same(String what, Object due, Object got) {
        Check.that(told + ": " + what, due, got);
    }

    private void sameOutcome(String what, Check.Call due, Check.Call got) {
        same(what, Check.outcome(due), Check.outcome(got));
    }
}
