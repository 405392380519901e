/** Promises 19 to 24: what would be, and the digest. */
public final class WouldBeTest {
    public static void main(String[] args) {
        would();
        way();
        wayStepByStep();
        wayWithoutAny();
        count();
        alike();
        digest();
        digestOfAll();
        Check.end("WouldBeTest");
    }

    private static void wouldBe(Cascadecourt court, int... due) {
        long before = court.digest();
        for (int height = 0; height < due.length; height++) {
            Check.that("would(" + height + ")", due[height], court.would(height));
        }
        Check.that("would: nothing is changed", before, court.digest());
    }

    private static void would() {
        Cascadecourt court = new Cascadecourt();
        wouldBe(court, 0, -1, -1, -1, -1, -1, -1, -1, -1, -1);
        court.take(1);
        wouldBe(court, -1, 1, 2, 4, 8, 16, 32, 64, 128, 256);
        court.take(3);
        wouldBe(court, -1, -1, -1, 7, 11, 19, 35, 67, 131, 259);
        court.toss(5);
        wouldBe(court, -1, -1, 11, 13, -1, 25, 41, 73, 137, 265);
        court.toss(2);
        court.toss(0);
        wouldBe(court, -1, 3, -1, 6, 10, 18, 34, 66, 130, 258);
        court.take(1);
        court.toss(2);
        wouldBe(court, 1, -1, -1, -1, -1, -1, -1, -1, -1, -1);
        Check.fails("would(-1)", Check.ARGUMENT, court, () -> court.would(-1));
        Check.fails("would(10)", Check.ARGUMENT, court, () -> court.would(10));
        Check.fails("would(32)", Check.ARGUMENT, court, () -> court.would(32));
    }

    private static void wayIs(Cascadecourt court, int row, int way, int first) {
        long before = court.digest();
        Check.that("way(" + row + ") to " + court.text(row), way, court.way(row));
        Check.that("first(" + row + ") to " + court.text(row), first, court.first(row));
        Check.that("way: nothing is changed", before, court.digest());
    }

    private static void way() {
        Cascadecourt court = Courts.with("3", "51", "441", "900", "333", "9", "321", "42");
        court.take(3);
        wayIs(court, 0, 0, -1);
        wayIs(court, 1, 1, 4);
        wayIs(court, 2, 0, -1);
        wayIs(court, 4, 0, -1);
        wayIs(court, 5, -1, -1);
        wayIs(court, 6, -1, -1);
        wayIs(court, 7, 0, -1);
        court.toss(5);
        wayIs(court, 0, 2, 2);
        court.toss(0);
        wayIs(court, 0, -1, -1);
        Check.fails("way(8)", Check.INDEX, court, () -> court.way(8));
        Check.fails("way(-1)", Check.INDEX, court, () -> court.way(-1));
        Check.fails("first(8)", Check.INDEX, court, () -> court.first(8));
        Check.fails("first(-1)", Check.INDEX, court, () -> court.first(-1));
    }

    private static void wayStepByStep() {
        Cascadecourt court = Courts.with("900");
        court.take(3);
        // At 2 beats the props are to land at 2, 5 and 8: the first one by 5 or 8, the smaller one is 5.
        wayIs(court, 0, 2, 5);
        court.toss(5);
        wayIs(court, 0, 1, 7);
        court.toss(7);
        Check.that("way: the STATE at SITE 0 of 900", court.ofSite(0, 0, 2), court.many(2));
        wayIs(court, 0, 0, -1);
        court.take(3);
        court.toss(8);
        wayIs(court, 0, 1, 4);
    }

    private static void wayWithoutAny() {
        Cascadecourt court = Courts.with("0", "00", "1", "21");
        wayIs(court, 0, 0, -1);
        wayIs(court, 1, 0, -1);
        wayIs(court, 2, -1, -1);
        wayIs(court, 3, -1, -1);
        court.take(1);
        wayIs(court, 0, -1, -1);
        wayIs(court, 2, 0, -1);
        court.toss(9);
        wayIs(court, 2, 8, 0);
        court.toss(0);
        wayIs(court, 2, 7, 0);
        court.take(1);
        court.toss(0);
        wayIs(court, 0, 0, -1);
        wayIs(court, 2, -1, -1);
    }

    private static void count() {
        Cascadecourt court = Courts.with("3");
        for (int props = 0; props <= 9; props++) {
            Check.that("count(1, " + props + ")", 1, court.count(1, props));
        }
        int[] pairs = {1, 3, 5, 7, 9, 9, 7, 5, 3, 1};
        for (int props = 0; props < pairs.length; props++) {
            Check.that("count(2, " + props + ")", pairs[props], court.count(2, props));
        }
        for (int length = 1; length <= 4; length++) {
            for (int props = 0; props <= 9; props++) {
                Check.that("count(" + length + ", " + props + ")",
                        countOneByOne(length, props), court.count(length, props));
            }
        }
        Check.that("count(3, 2)", 19, court.count(3, 2));
        Check.that("count(4, 1)", 15, court.count(4, 1));
        Check.that("count(4, 2)", 65, court.count(4, 2));
        Check.fails("count(0, 0)", Check.ARGUMENT, court, () -> court.count(0, 0));
        Check.fails("count(-1, 0)", Check.ARGUMENT, court, () -> court.count(-1, 0));
        Check.fails("count(5, 0)", Check.ARGUMENT, court, () -> court.count(5, 0));
        Check.fails("count(1, -1)", Check.ARGUMENT, court, () -> court.count(1, -1));
        Check.fails("count(1, 10)", Check.ARGUMENT, court, () -> court.count(1, 10));
        Check.fails("count(max, max)", Check.ARGUMENT, court, () -> court.count(Integer.MAX_VALUE, Integer.MAX_VALUE));
    }

    private static int countOneByOne(int length, int props) {
        int lists = 1;
        for (int site = 0; site < length; site++) {
            lists *= 10;
        }
        int found = 0;
        for (int told = 0; told < lists; told++) {
            boolean[] landed = new boolean[length];
            boolean sound = true;
            int sum = 0;
            int digits = told;
            for (int site = length - 1; site >= 0; site--) {
                int landing = (site + digits % 10) % length;
                sound = sound && !landed[landing];
                landed[landing] = true;
                sum += digits % 10;
                digits /= 10;
            }
            if (sound && sum == length * props) {
                found++;
            }
        }
        return found;
    }

    private static void alike() {
        Cascadecourt court = Courts.with("12345", "34512", "4242", "2424", "3", "33", "51234567", "75123456");
        Check.that("alike(0, 1)", 2, court.alike(0, 1));
        Check.that("alike(1, 0)", 3, court.alike(1, 0));
        Check.that("alike(0, 0)", 0, court.alike(0, 0));
        Check.that("alike(2, 3)", 1, court.alike(2, 3));
        Check.that("alike(2, 2)", 0, court.alike(2, 2));
        Check.that("alike(4, 5): LENGTH", -1, court.alike(4, 5));
        Check.that("alike(5, 4): LENGTH", -1, court.alike(5, 4));
        Check.that("alike(0, 2)", -1, court.alike(0, 2));
        Check.that("alike(6, 7)", 7, court.alike(6, 7));
        Check.that("alike(7, 6)", 1, court.alike(7, 6));
        court.swap(1, 3, 4);
        Check.that("alike: the same sum, other THROWS", -1, court.alike(0, 1));
        Cascadecourt near = Courts.with("345", "945", "349");
        Check.that("alike: another THROW at SITE 0", -1, near.alike(0, 1));
        Check.that("alike: another THROW at the last SITE", -1, near.alike(0, 2));
        Cascadecourt two = Courts.with("3", "3");
        Check.that("alike(0, 1) of 3 and 3", 0, two.alike(0, 1));
        Check.fails("alike(0, 2)", Check.INDEX, two, () -> two.alike(0, 2));
        Check.fails("alike(2, 0)", Check.INDEX, two, () -> two.alike(2, 0));
        Check.fails("alike(-1, 0)", Check.INDEX, two, () -> two.alike(-1, 0));
        Check.fails("alike(0, -1)", Check.INDEX, two, () -> two.alike(0, -1));
    }

    private static long digestOf(long... numbers) {
        long sum = 58305;
        for (long number : numbers) {
            sum = sum * 31 + number;
        }
        return sum;
    }

    private static void digest() {
        Cascadecourt court = new Cascadecourt();
        Check.that("digest of a new one", digestOf(
                0, 0, 0, 0, 0, 0, 0, 0, -1, 0,
                0, -1, -1, -1, -1, -1, -1, -1, -1, -1,
                0), court.digest());
        court.tell(51, 2);
        court.take(3);
        court.toss(5);
        Check.that("digest of 51 and three props", digestOf(
                1, 3, 19, 1, 0, 0, 1, 1, 1, 1,
                2, 1, 3, 5, 2, 1, 1, 0, 2, 6,
                5, 1, 11, 6, 3, 1, 0, 21, 6, 3,
                1, 2,
                4, 1, 0, 1, 0, 0, 0, 1, 1, 0, 0, 0,
                -1, -1, 11, 13, -1, 25, 41, 73, 137, 265,
                5), court.digest());
        Check.that("digest changes nothing", court.digest(), court.digest());
    }

    /** The digest is made of what the other calls answer. */
    private static void digestOfAll() {
        Cascadecourt court = Courts.with("441", "6040", "97531", "12345678");
        court.take(5);
        court.run(0, 1, 7);
        court.pick();
        long sum = 58305;
        for (int what = 0; what < 10; what++) {
            sum = sum * 31 + court.many(what);
        }
        for (int row = 0; row < court.many(0); row++) {
            for (int what = 0; what < 10; what++) {
                sum = sum * 31 + court.ofRow(row, what);
            }
            for (int site = 0; site < court.ofRow(row, 0); site++) {
                for (int what = 0; what < 5; what++) {
                    sum = sum * 31 + court.ofSite(row, site, what);
                }
            }
            sum = sum * 31 + court.way(row);
            sum = sum * 31 + court.first(row);
        }
        for (int prop = 0; prop < court.many(1); prop++) {
            for (int what = 0; what < 4; what++) {
                sum = sum * 31 + court.ofProp(prop, what);
            }
        }
        for (int height = 0; height < 10; height++) {
            sum = sum * 31 + court.would(height);
        }
        sum = sum * 31 + (long) (8.0 * court.tired());
        Check.that("digest of four rows and five props", sum, court.digest());
    }
}
