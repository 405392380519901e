import java.math.BigInteger;
import java.util.ArrayList;
import java.util.List;

/** The boundary cases that promises 19 to 24 name: a test for each sentence. */
public final class WouldBeEdgesTest {
    private static final String WOULD = "Promise 19: would";
    private static final String WAY = "Promise 20: way";
    private static final String FIRST = "Promise 21: first";
    private static final String COUNT = "Promise 22: count";
    private static final String ALIKE = "Promise 23: alike";
    private static final String DIGEST = "Promise 24: digest";
    private static final String NO_SUCH_ROW = "Throws IndexOutOfBoundsException if there is no such ROW";

    public static void main(String[] args) {
        nothingIsChanged();
        would();
        way();
        first();
        count();
        alike();
        digest();
        Check.end("WouldBeEdgesTest");
    }

    private static void would() {
        wouldAsTossDoes();
        wouldNoneOtherwise();
        wouldHeight();
    }

    private static void way() {
        wayNone();
        wayNotSound();
        wayOtherProps();
        wayFewest();
        wayToItsEnd();
        wayNoSuchRow();
    }

    private static void first() {
        firstSmallest();
        firstWithoutWay();
        firstNoSuchRow();
    }

    private static void count() {
        countEachList();
        countThrowsAboveNine();
        countWrong();
    }

    private static void alike() {
        alikeLeast();
        alikeLengthAndThrows();
        alikeNone();
        alikeNoSuchRow();
    }

    private static void digest() {
        digestOfNothing();
        digestOfAll();
        digestOfTired();
    }

    private static Cascadecourt taken(int props, String... rows) {
        Cascadecourt court = Courts.with(rows);
        court.take(props);
        return court;
    }

    private static void nothingIsChanged() {
        Check.sentence("Terms, the interface", "what would be (nothing is changed)");
        Cascadecourt court = taken(4, "5340", "321", "441", "612");
        Courts.tossAll(court, 9, 0);
        Check.keepsAll("would(7)", court.would(7), court, () -> court.would(7));
        Check.keepsAll("would(0)", court.would(0), court, () -> court.would(0));
        Check.keepsAll("way(2)", court.way(2), court, () -> court.way(2));
        Check.keepsAll("first(3)", court.first(3), court, () -> court.first(3));
        Check.keepsAll("count(4, 5)", court.count(4, 5), court, () -> court.count(4, 5));
        Check.keepsAll("alike(0, 1)", -1, court, () -> court.alike(0, 1));
        Check.keepsAll("digest()", court.digest(), court, court::digest);
    }

    private static void wouldAsTossDoes() {
        Check.sentence(WOULD, "Returns the STATE behind it, if section 2 lets it now");
        int[][] games = {{}, {9}, {9, 9}, {9, 9, 9}, {4, 0}, {5, 1, 5}, {8, 7, 0}, {0, 0, 0}, {3, 9, 2, 1}};
        for (int[] game : games) {
            for (int height = 0; height <= 9; height++) {
                Cascadecourt court = Courts.thrown(3, game);
                int would = court.would(height);
                int slips = court.many(4);
                court.toss(height);
                boolean let = court.many(4) == slips;
                Check.that(height + " in game " + game.length, let ? court.many(2) : -1, would);
            }
        }
    }

    private static void wouldNoneOtherwise() {
        Check.sentence(WOULD, "NONE otherwise.");
        Cascadecourt without = new Cascadecourt();
        Check.that("0 without props", 0, without.would(0));
        Check.that("1 without props", -1, without.would(1));
        Check.that("9 without props", -1, without.would(9));
        Cascadecourt six = Courts.thrown(6);
        Check.that("0 as one lands", -1, six.would(0));
        Check.that("1 where another one lands", -1, six.would(1));
        Check.that("5 where another one lands", -1, six.would(5));
        Check.that("6 where none lands", 63, six.would(6));
        Check.that("9 where none lands", 287, six.would(9));
        Cascadecourt high = Courts.thrown(2, 9);
        Check.that("8 where another one lands", -1, high.would(8));
        Check.that("9 behind it", 384, high.would(9));
        high.toss(9);
        Check.that("0 as none lands", 192, high.would(0));
        Check.that("8 as none lands", -1, high.would(8));
    }

    private static void wouldHeight() {
        Check.sentence(WOULD, "Throws IllegalArgumentException if height is not 0 to 9");
        Edges.range("would without props", Cascadecourt::new, 0, 9, Cascadecourt::would);
        Edges.range("would of six", () -> Courts.thrown(6), 0, 9, Cascadecourt::would);
        Edges.refused("would", Check.ARGUMENT, Courts.thrown(1, 9), Cascadecourt::would, 31, 32, 33, -31, -32);
    }

    private static void waysAre(Cascadecourt court, int way, int first, int... rows) {
        for (int row : rows) {
            String name = court.text(row) + " from the STATE " + court.many(2);
            Check.that("way to " + name, way, court.way(row));
            Check.that("first to " + name, first, court.first(row));
        }
    }

    private static void wayNone() {
        Check.sentence(WAY, "(0, if its STATE is one of it)");
        // The GROUND of three is at the first SITE, at the last one, in the midst.
        waysAre(taken(3, "3", "441", "414", "144", "4413"), 0, -1, 0, 1, 2, 3, 4);
        waysAre(Courts.with("0", "00000000"), 0, -1, 0, 1);
        waysAre(taken(6, "6", "66666666"), 0, -1, 0, 1);
        Cascadecourt dropped = taken(1, "0");
        dropped.toss(0);
        waysAre(dropped, 0, -1, 0);
        Cascadecourt high = taken(1, "80000000");
        high.toss(8);
        waysAre(high, 0, -1, 0);
    }

    private static void wayNotSound() {
        Check.sentence(WAY, "NONE, if it is not SOUND");
        // The sum of the THROWS divided by LENGTH is as many as the STATE has.
        waysAre(taken(2, "321"), -1, -1, 0);
        waysAre(taken(3, "3450"), -1, -1, 0);
        waysAre(taken(1, "10", "90000000", "00000009"), -1, -1, 0, 1, 2);
        waysAre(Courts.with("10", "321"), -1, -1, 0, 1);
    }

    private static void wayOtherProps() {
        Check.sentence(WAY, "or its PROPS are not as many as the STATE has.");
        Cascadecourt court = taken(3, "2", "3", "4", "0", "9", "00000000", "42");
        waysAre(court, -1, -1, 0, 2, 3, 4, 5);
        waysAre(court, 0, -1, 1, 6);
        // A DROPPED prop is not in the STATE.
        court.toss(0);
        waysAre(court, -1, -1, 1, 2, 3, 6);
        waysAre(court, 0, -1, 0);
        Cascadecourt without = Courts.with("1", "9", "20", "0");
        waysAre(without, -1, -1, 0, 1, 2);
        waysAre(without, 0, -1, 3);
    }

    private static void wayFewest() {
        Check.sentence(WAY, "Returns with how few THROWS the juggler comes from its STATE into that ROW, at any SITE");
        // The only prop lands in 8 beats, with a 0 by each of them; 20 and 80000000 have STATES ahead of that, too.
        Cascadecourt high = taken(1, "1", "20", "80000000");
        high.toss(9);
        waysAre(high, 8, 0, 0);
        waysAre(high, 7, 0, 1);
        waysAre(high, 1, 0, 2);
        waysAre(taken(3, "51", "15", "612", "261", "126"), 1, 4, 0, 1, 2, 3, 4);
        waysAre(taken(3, "60", "06"), 2, 4, 0, 1);
        waysAre(taken(6, "75", "57"), 0, -1, 0, 1);
        waysAre(taken(6, "84", "48"), 1, 7, 0, 1);
        waysAre(taken(6, "93", "39"), 2, 7, 0, 1);
    }

    private static void wayToItsEnd() {
        Check.sentence(WAY, "Returns with how few THROWS the juggler comes from its STATE into that ROW, at any SITE");
        String[] rows = {"3", "51", "900", "60", "522", "72", "801", "531"};
        for (int row = 0; row < rows.length; row++) {
            Cascadecourt court = taken(3, rows);
            Courts.tossAll(court, 9, 9, 9);
            int left = court.way(row);
            for (; left > 0; left--) {
                court.toss(court.first(row));
                Check.that("way to " + rows[row] + ", a THROW on", left - 1, court.way(row));
            }
            Check.that("SLIPS on the way to " + rows[row], 0, court.many(4));
            Check.that("first() at its end", -1, court.first(row));
        }
    }

    private static void wayNoSuchRow() {
        Check.sentence(WAY, NO_SUCH_ROW);
        Edges.noSuchRow("way", "441", Cascadecourt::way);
        Edges.noSuchRow("way", "321", Cascadecourt::way);
    }

    private static void firstSmallest() {
        Check.sentence(FIRST, "Returns the first THROW of a way with that few THROWS, of several the smallest one");
        // By 4 and 5, and by 6 and 3; by 5 and 7, and by 8 and 4; to another SITE each, by 4 or by 5.
        waysAre(taken(3, "60", "06"), 2, 4, 0, 1);
        waysAre(taken(3, "900", "090", "009"), 2, 5, 0, 1, 2);
        waysAre(taken(3, "612", "261", "126"), 1, 4, 0, 1, 2);
        Cascadecourt high = taken(1, "1");
        high.toss(2);
        waysAre(high, 1, 0, 0);
    }

    private static void firstWithoutWay() {
        Check.sentence(FIRST, "NONE, if way() is 0 or NONE.");
        Cascadecourt court = taken(2, "2", "31", "321", "3", "0");
        waysAre(court, 0, -1, 0, 1);
        waysAre(court, -1, -1, 2, 3, 4);
        waysAre(Courts.with("0"), 0, -1, 0);
        waysAre(Courts.with("1"), -1, -1, 0);
    }

    private static void firstNoSuchRow() {
        Check.sentence(FIRST, NO_SUCH_ROW);
        Edges.noSuchRow("first", "441", Cascadecourt::first);
        Edges.noSuchRow("first", "321", Cascadecourt::first);
    }

    private static void countEachList() {
        Check.sentence(COUNT, "(each other list of THROWS is another one)");
        Cascadecourt court = new Cascadecourt();
        // 11, 20 and 02; 111, 300, 030, 003, 120, 012 and 201.
        Check.that("count(2, 1)", 3, court.count(2, 1));
        Check.that("count(3, 1)", 7, court.count(3, 1));
        Check.that("count(4, 1)", 15, court.count(4, 1));
        for (int length = 1; length <= 4; length++) {
            Check.that("count(" + length + ", 0)", 1, court.count(length, 0));
        }
    }

    private static void countThrowsAboveNine() {
        Check.sentence(COUNT, "and no THROW above 9");
        Cascadecourt court = new Cascadecourt();
        for (int length = 1; length <= 4; length++) {
            Check.that("count(" + length + ", 9)", 1, court.count(length, 9));
        }
        for (int props = 0; props <= 9; props++) {
            Check.that("count(1, " + props + ")", 1, court.count(1, props));
        }
        // 88, 79 and 97, but not 6 and 10; and as many of eight as there are of one, up to four SITES.
        Check.that("count(2, 8)", 3, court.count(2, 8));
        Check.that("count(3, 8)", 7, court.count(3, 8));
        Check.that("count(4, 8)", 15, court.count(4, 8));
        // Without that bound there were 6 * 6 - 5 * 5 = 11 of five, but 0 and 10 make two of them.
        Check.that("count(2, 4)", 9, court.count(2, 4));
        Check.that("count(2, 5)", 9, court.count(2, 5));
    }

    private static void countWrong() {
        Check.sentence(COUNT, "Throws IllegalArgumentException if length is not 1 to 4, or props not 0 to 9");
        Edges.range("count(.., 0)", Cascadecourt::new, 1, 4, (it, length) -> it.count(length, 0));
        Edges.range("count(.., 9)", () -> Courts.thrown(6), 1, 4, (it, length) -> it.count(length, 9));
        Edges.range("count(1, ..)", Cascadecourt::new, 0, 9, (it, props) -> it.count(1, props));
        Edges.range("count(4, ..)", () -> Courts.thrown(6), 0, 9, (it, props) -> it.count(4, props));
        Edges.refused("count(.., ..)", Check.ARGUMENT, new Cascadecourt(), (it, both) -> it.count(both, both), -1, 10);
    }

    private static void alikeLeast() {
        Check.sentence(ALIKE, "Returns the least number by which the first one has to be shifted "
                + "to be as the second one");
        Cascadecourt court = Courts.with("12345678", "23456781", "34567812", "45678123", "56781234", "67812345",
                "78123456", "81234567");
        for (int one = 0; one < 8; one++) {
            for (int other = 0; other < 8; other++) {
                Check.that("alike(" + one + ", " + other + ")", (other - one + 8) % 8, court.alike(one, other));
            }
        }
        Cascadecourt again = Courts.with("4242", "2424", "55555555", "55555555", "3", "3", "112112", "121121");
        Check.that("1, 3 would do as well", 1, again.alike(0, 1));
        Check.that("0, 2 would do as well", 0, again.alike(0, 0));
        Check.that("0, all others would do as well", 0, again.alike(2, 3));
        Check.that("0 of one SITE", 0, again.alike(4, 5));
        Check.that("1 of three", 1, again.alike(6, 7));
        Check.that("2 of three", 2, again.alike(7, 6));
    }

    private static void alikeLengthAndThrows() {
        Check.sentence(ALIKE, "(LENGTH and each THROW)");
        Cascadecourt court = Courts.with("3", "33", "33333333", "345", "945", "349", "385", "0345");
        for (int row = 0; row < 8; row++) {
            for (int other = 0; other < 8; other++) {
                int due = row == other ? 0 : -1;
                Check.that("alike(" + row + ", " + other + ")", due, court.alike(row, other));
            }
        }
    }

    private static void alikeNone() {
        Check.sentence(ALIKE, "NONE, if none of 0 to 7 does that.");
        Cascadecourt court = Courts.with("12345678", "87654321", "81234567", "1234567", "7123456");
        Check.that("turned round", -1, court.alike(0, 1));
        Check.that("by 7", 7, court.alike(0, 2));
        Check.that("by 6 of seven", 6, court.alike(3, 4));
        Check.that("of other LENGTHS", -1, court.alike(0, 3));
    }

    private static void alikeNoSuchRow() {
        Check.sentence(ALIKE, NO_SUCH_ROW + ", of both");
        Edges.noSuchRow("alike(.., 0)", "12", (it, row) -> it.alike(row, 0));
        Edges.noSuchRow("alike(0, ..)", "12", (it, row) -> it.alike(0, row));
        Edges.noSuchRow("alike(.., ..)", "12", (it, row) -> it.alike(row, row));
    }

    /** The checksum, without any wrap till the end. */
    private static long digestOf(List<Integer> numbers) {
        BigInteger sum = BigInteger.valueOf(58305);
        for (int number : numbers) {
            sum = sum.multiply(BigInteger.valueOf(31)).add(BigInteger.valueOf(number));
        }
        return sum.longValue();
    }

    private static long digestOfAnswers(Cascadecourt court, int eighths) {
        List<Integer> numbers = new ArrayList<>();
        for (int what = 0; what <= 9; what++) {
            numbers.add(court.many(what));
        }
        for (int row = 0; row < court.many(0); row++) {
            for (int what = 0; what <= 9; what++) {
                numbers.add(court.ofRow(row, what));
            }
            for (int site = 0; site < court.ofRow(row, 0); site++) {
                for (int what = 0; what <= 4; what++) {
                    numbers.add(court.ofSite(row, site, what));
                }
            }
            numbers.add(court.way(row));
            numbers.add(court.first(row));
        }
        for (int prop = 0; prop < court.many(1); prop++) {
            for (int what = 0; what <= 3; what++) {
                numbers.add(court.ofProp(prop, what));
            }
        }
        for (int height = 0; height <= 9; height++) {
            numbers.add(court.would(height));
        }
        numbers.add(eighths);
        return digestOf(numbers);
    }

    private static void digestOfNothing() {
        Check.sentence(DIGEST, "d becomes d * 31 + v, which wraps around as a 64-bit integer");
        List<Integer> numbers = new ArrayList<>();
        int[] due = {0, 0, 0, 0, 0, 0, 0, 0, -1, 0, 0, -1, -1, -1, -1, -1, -1, -1, -1, -1, 0};
        for (int number : due) {
            numbers.add(number);
        }
        Cascadecourt court = new Cascadecourt();
        Check.that("of a new one", digestOf(numbers), court.digest());
        Check.keepsAll("asked again", digestOf(numbers), court, court::digest);
    }

    private static void digestOfAll() {
        Check.sentence(DIGEST, "many() of 0 to 9; ROW by ROW ofRow() of 0 to 9, SITE by SITE ofSite() of 0 to 4, "
                + "then way() and first() of the ROW; prop by prop ofProp() of 0 to 3; would() of 0 to 9");
        Cascadecourt rows = Courts.with("0", "9");
        Check.that("of ROWS without props", digestOfAnswers(rows, 0), rows.digest());
        Cascadecourt props = Courts.thrown(6);
        Check.that("of props without ROWS", digestOfAnswers(props, 0), props.digest());
        Cascadecourt most = taken(6, "12345678", "88888888", "99999999", "00000000", "80000000", "75757575", "6", "84");
        Check.that("of eight ROWS and six props", digestOfAnswers(most, 0), most.digest());
        Courts.tossAll(most, 9, 0, 0, 0, 0, 0);
        Check.that("of five props that are DROPPED", digestOfAnswers(most, 0), most.digest());
    }

    private static void digestOfTired() {
        Check.sentence(DIGEST, "8.0 times TIRED, as a whole number.");
        Cascadecourt court = Courts.thrown(1, 1);
        Check.that("of 0.125", digestOfAnswers(court, 1), court.digest());
        court.toss(9);
        Check.that("of 1.25", digestOfAnswers(court, 10), court.digest());
        court.toss(0);
        Check.that("of 1.0", digestOfAnswers(court, 8), court.digest());
        Cascadecourt much = taken(6, "6");
        much.run(0, 0, 30);
        much.toss(7);
        Check.that("of 23.375", digestOfAnswers(much, 187), much.digest());
    }
}
