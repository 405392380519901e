/** The boundary cases that promises 8 to 11 name: a test for each sentence. */
public final class JugglerEdgesTest {
    private static final String TAKE = "Promise 8: take";
    private static final String TOSS = "Promise 9: toss";
    private static final String RUN = "Promise 10: run";
    private static final String PICK = "Promise 11: pick";

    public static void main(String[] args) {
        takeForgets();
        takeState();
        takeHowMany();
        tossWhatWasThrown();
        tossHeight();
        runSlips();
        runNoSuchRow();
        runNoSuchSite();
        runBeats();
        pickSmallest();
        pickNone();
        pickNotNow();
        Check.end("JugglerEdgesTest");
    }

    private static void takeForgets() {
        Check.sentence(TAKE, "all that was of the juggler is forgotten, but what is counted ever.");
        Cascadecourt court = Courts.with("441", "321");
        // Before the first TAKE there are beats and SLIPS, too.
        Courts.tossAll(court, 0, 7);
        court.take(4);
        Answers.many(court, 2, 4, 15, 0, 1, 0, 0, 1, 0, 2);
        // 5 is thrown, 0 and 1 drop three props, pick() brings one of them up.
        Courts.tossAll(court, 5, 0, 1);
        court.pick();
        Answers.many(court, 2, 4, 5, 3, 3, 2, 1, 1, 1, 5);
        Check.that("STATE of two", 3, court.take(2));
        Answers.many(court, 2, 2, 3, 0, 3, 0, 0, 1, 0, 5);
        Check.that("TIRED", 0.0, court.tired());
        for (int prop = 0; prop < 2; prop++) {
            Answers.ofProp(court, prop, prop, 0, 0, prop);
        }
        Check.fails("the prop 2", Check.INDEX, court, () -> court.ofProp(2, 0));
        Check.that("no prop is still DROPPED", -1, court.pick());
    }

    private static void takeState() {
        Check.sentence(TAKE, "Returns the STATE.");
        Cascadecourt court = new Cascadecourt();
        int[] due = {63, 31, 15, 7, 3, 1, 63};
        int[] props = {6, 5, 4, 3, 2, 1, 6};
        for (int time = 0; time < due.length; time++) {
            Check.that("take(" + props[time] + ")", due[time], court.take(props[time]));
            Check.that("the STATE behind it", due[time], court.many(2));
        }
    }

    private static void takeHowMany() {
        Check.sentence(TAKE, "Throws IllegalArgumentException if props is not 1 to 6");
        Edges.range("take", Cascadecourt::new, 1, 6, Cascadecourt::take);
        Edges.range("take again", () -> Courts.thrown(6, 9, 0, 1), 1, 6, Cascadecourt::take);
        Edges.refused("take", Check.ARGUMENT, Courts.thrown(2, 3), Cascadecourt::take, 8, 9, 10, 32);
    }

    private static void tossWhatWasThrown() {
        Check.sentence(TOSS, "Returns the prop that was thrown; NONE without one.");
        Cascadecourt court = Courts.thrown(6);
        Check.that("the first one", 0, court.toss(6));
        Courts.tossAll(court, 6, 6, 6, 6);
        Check.that("the last one", 5, court.toss(9));
        Check.that("by 0, that DROPS one", -1, court.toss(0));
        Check.that("by 1, that DROPS two", -1, court.toss(1));
        Courts.tossAll(court, 9, 9, 9);
        Check.that("by 0, as none lands", -1, court.toss(0));
        Check.that("by 9, as none lands", -1, court.toss(9));
        Check.that("without props", -1, new Cascadecourt().toss(0));
        Check.that("by 1 without props", -1, new Cascadecourt().toss(1));
    }

    private static void tossHeight() {
        Check.sentence(TOSS, "Throws IllegalArgumentException if height is not 0 to 9");
        Edges.range("toss without props", Cascadecourt::new, 0, 9, Cascadecourt::toss);
        Edges.range("toss as one lands", () -> Courts.thrown(6), 0, 9, Cascadecourt::toss);
        Edges.range("toss as none lands", () -> Courts.thrown(1, 9), 0, 9, Cascadecourt::toss);
        Edges.refused("toss", Check.ARGUMENT, Courts.thrown(3), Cascadecourt::toss, 32, 33, -32, 256);
    }

    private static void runSlips() {
        Check.sentence(RUN, "Returns how many SLIPS that were.");
        Cascadecourt court = Courts.with("3", "0", "9", "80000000");
        court.take(3);
        Check.that("none in 30 beats", 0, court.run(0, 0, 30));
        Check.that("three of 30 beats", 3, court.run(1, 0, 30));
        Check.that("not those ahead of it", 0, court.run(1, 0, 1));
        Check.that("all of 30 beats", 30, court.run(2, 0, 30));
        Check.that("one of one beat", 1, court.run(2, 0, 1));
        Check.that("SLIPS ever", 34, court.many(4));
        Check.that("one of the SITES 7 and 0", 1, court.run(3, 7, 2));
    }

    private static void runNoSuchRow() {
        Check.sentence(RUN, "Throws IndexOutOfBoundsException if there is no such ROW");
        Edges.noSuchRow("run(.., 0, 1)", "441", (it, row) -> it.run(row, 0, 1));
        Edges.noSuchRow("run(.., 2, 30)", "441", (it, row) -> it.run(row, 2, 30));
    }

    private static void runNoSuchSite() {
        Check.sentence(RUN, "or SITE of it");
        Edges.noSuchSite("run(0, .., 1)", (it, site) -> it.run(0, site, 1));
        Edges.noSuchSite("run(0, .., 30)", (it, site) -> it.run(0, site, 30));
    }

    private static void runBeats() {
        Check.sentence(RUN, "Throws IllegalArgumentException if beats is not 1 to 30");
        Edges.range("run(0, 0, ..)", () -> Courts.with("3"), 1, 30, (it, beats) -> it.run(0, 0, beats));
        Edges.range("run(0, 7, ..)", () -> Courts.with("33333333"), 1, 30, (it, beats) -> it.run(0, 7, beats));
        Cascadecourt court = Courts.with("1");
        court.take(1);
        Check.that("SLIPS in 1 beat", 0, court.run(0, 0, 1));
        Check.that("BEAT behind 1", 1, court.many(3));
        Check.that("SLIPS in 30 beats", 0, court.run(0, 0, 30));
        Check.that("BEAT behind 30 more", 31, court.many(3));
    }

    private static void pickSmallest() {
        Check.sentence(PICK, "PICKS the DROPPED prop with the smallest number up.");
        Cascadecourt court = Courts.thrown(3, 0, 0, 0);
        for (int prop = 0; prop < 3; prop++) {
            Check.that("the next one", prop, court.pick());
            Check.that("it lands now", prop, court.many(8));
            Check.that("it is thrown", prop, court.toss(9));
        }
        Check.that("no more", -1, court.pick());
        // The prop 2 is DROPPED first, and 0 behind it.
        Cascadecourt other = Courts.thrown(3, 5, 5, 0, 0, 0, 0, 3);
        Check.that("DROPPED", 2, other.many(5));
        Check.that("not the one that was DROPPED first", 0, other.pick());
        other.toss(1);
        Check.that("it lands again", 0, other.toss(9));
        Check.that("a prop lands", 1, other.many(8));
        other.toss(9);
        Check.that("the last one", 2, other.pick());
        Cascadecourt last = Courts.thrown(6, 6, 6, 6, 6, 6, 0, 7);
        Courts.tossAll(last, 7, 7, 7, 7);
        Check.that("the prop 5 alone", 5, last.pick());
    }

    private static void pickNone() {
        Check.sentence(PICK, "NONE, if none is DROPPED");
        Cascadecourt without = new Cascadecourt();
        Check.keepsAll("without props", -1, without, without::pick);
        Cascadecourt one = Courts.thrown(1);
        Check.keepsAll("one that lands now", -1, one, one::pick);
        Cascadecourt high = Courts.thrown(1, 9);
        Check.keepsAll("one in the air", -1, high, high::pick);
        Cascadecourt picked = Courts.thrown(1, 0);
        picked.pick();
        picked.toss(4);
        Check.keepsAll("one that was PICKED up and thrown", -1, picked, picked::pick);
        Cascadecourt taken = Courts.thrown(6, 0, 0, 0);
        taken.take(1);
        Check.keepsAll("those DROPPED ahead of TAKE", -1, taken, taken::pick);
        taken.toss(5);
        Check.keepsAll("those, as none lands", -1, taken, taken::pick);
    }

    private static void pickNotNow() {
        Check.sentence(PICK, "or it can not be now (that is no SLIP).");
        Cascadecourt court = Courts.thrown(3, 0, 0);
        Check.that("DROPPED", 2, court.many(5));
        Check.keepsAll("as the prop 2 lands", -1, court, court::pick);
        court.toss(2);
        Check.that("as it is in the air", 0, court.pick());
        Check.keepsAll("as the one PICKED up is to land", -1, court, court::pick);
        Check.that("DROPPED still", 1, court.many(5));
        Check.that("SLIPS still", 2, court.many(4));
        Check.that("BEAT still", 3, court.many(3));
        court.toss(2);
        Check.keepsAll("as the prop 2 lands again", -1, court, court::pick);
        court.toss(5);
        court.toss(5);
        Check.that("as both are in the air", 1, court.pick());
    }
}
