import java.util.function.Supplier;

/** What the tests of the boundary cases share: numbers that are just there, and those that just are not. */
final class Edges {
    interface Asked {
        Object of(Cascadecourt court, int number);
    }

    private static final int MIN = Integer.MIN_VALUE;
    private static final int MAX = Integer.MAX_VALUE;

    private Edges() {
    }

    /** Each of these numbers brings out that exception, and changes nothing. */
    static void refused(String call, Class<? extends RuntimeException> due, Cascadecourt court, Asked asked,
            int... numbers) {
        for (int number : numbers) {
            Check.fails(call + " with " + number, due, court, () -> asked.of(court, number));
        }
    }

    /** Each of these numbers gets an answer, on a court of its own. */
    static void taken(String call, Supplier<Cascadecourt> courts, Asked asked, int... numbers) {
        for (int number : numbers) {
            Cascadecourt court = courts.get();
            Check.answers(call + " with " + number, () -> asked.of(court, number));
        }
    }

    /** "if .. is not LEAST to MOST". */
    static void range(String call, Supplier<Cascadecourt> courts, int least, int most, Asked asked) {
        taken(call, courts, asked, least, most);
        refused(call, Check.ARGUMENT, courts.get(), asked, least - 1, most + 1, MIN, MAX);
    }

    /** "if there is no such ROW": with no ROW, with one and with eight, each of them told by these THROWS. */
    static void noSuchRow(String call, String row, Asked asked) {
        refused(call + " without ROWS", Check.INDEX, new Cascadecourt(), asked, 0, -1, 1, 7, 8);
        refused(call + " of one ROW", Check.INDEX, Courts.with(row), asked, 1, -1, 2, 7, 8, MIN, MAX);
        taken(call + " of one ROW", () -> Courts.with(row), asked, 0);
        refused(call + " of eight ROWS", Check.INDEX, Courts.withEight(row), asked, 8, -1, 9, MIN, MAX);
        taken(call + " of eight ROWS", () -> Courts.withEight(row), asked, 0, 7);
    }

    /** "if there is no such SITE of it": of the ROW 0, with one SITE and with eight, and with those of a ROW joined. */
    static void noSuchSite(String call, Asked asked) {
        refused(call + " of one SITE", Check.INDEX, Courts.with("3", "12345678"), asked, 1, -1, 7, MIN, MAX);
        taken(call + " of one SITE", () -> Courts.with("3"), asked, 0);
        refused(call + " of eight SITES", Check.INDEX, Courts.with("33333333"), asked, 8, -1, 9, MIN, MAX);
        taken(call + " of eight SITES", () -> Courts.with("33333333"), asked, 0, 7);
        refused(call + " of three SITES joined", Check.INDEX, joined(), asked, 3, -1);
        taken(call + " of three SITES joined", Edges::joined, asked, 0, 2);
    }

    private static Cascadecourt joined() {
        Cascadecourt court = Courts.with("3", "33");
        court.join(0, 1);
        return court;
    }
}
