/** Promises 8 to 11: the juggler takes, throws, drops and picks up. */
public final class JugglerTest {
    public static void main(String[] args) {
        take();
        toss();
        tossWithSlips();
        tossWithoutProps();
        run();
        pick();
        Check.end("JugglerTest");
    }

    private static void take() {
        Cascadecourt court = new Cascadecourt();
        int[] due = {1, 3, 7, 15, 31, 63};
        for (int props = 1; props <= 6; props++) {
            Check.that("take(" + props + ")", due[props - 1], court.take(props));
            Check.that("take: props", props, court.many(1));
            Check.that("take: where the last one lands", props - 1, court.ofProp(props - 1, 0));
        }
        Check.fails("take(0)", Check.ARGUMENT, court, () -> court.take(0));
        Check.fails("take(7)", Check.ARGUMENT, court, () -> court.take(7));
        Check.fails("take(-1)", Check.ARGUMENT, court, () -> court.take(-1));
        court.toss(6);
        court.toss(5);
        court.toss(0);
        Check.that("take: dropped ahead", 3, court.many(5));
        Check.that("take(2) anew", 3, court.take(2));
        Answers.many(court, 0, 2, 3, 0, 2, 0, 0, 0, 0, 3);
        Check.that("take: tired", 0.0, court.tired());
        for (int prop = 0; prop < 2; prop++) {
            Answers.ofProp(court, prop, prop, 0, 0, prop);
        }
        Check.fails("take: the third one is gone", Check.INDEX, court, () -> court.ofProp(2, 0));
    }

    private static void toss() {
        Cascadecourt court = new Cascadecourt();
        court.take(3);
        Check.that("toss(3)", 0, court.toss(3));
        Check.that("toss: BEAT", 1, court.many(3));
        Check.that("toss: STATE", 7, court.many(2));
        Check.that("toss(5)", 1, court.toss(5));
        Check.that("toss: STATE behind 5", 19, court.many(2));
        Check.that("toss(9)", 2, court.toss(9));
        Check.that("toss: STATE behind 9", 265, court.many(2));
        Check.that("toss(1)", 0, court.toss(1));
        Check.that("toss(1) again: the same prop", 0, court.toss(1));
        Check.that("toss(5) of that one", 0, court.toss(5));
        Check.that("toss: SLIPS", 0, court.many(4));
        Check.that("toss: FLIGHTS of 0", 4, court.ofProp(0, 1));
        Check.that("toss(1) of 1", 1, court.toss(1));
        Check.that("toss(2) of 1", 1, court.toss(2));
        Check.that("toss(0) with none", -1, court.toss(0));
        Check.that("toss: no SLIP", 0, court.many(4));
        Check.that("toss: FLIGHTS of all", 8, court.many(6));
        Check.that("toss: BEAT 9", 9, court.many(3));
        Check.that("toss: beats ever", 9, court.many(9));
        Check.fails("toss(-1)", Check.ARGUMENT, court, () -> court.toss(-1));
        Check.fails("toss(10)", Check.ARGUMENT, court, () -> court.toss(10));
        Check.fails("toss(max)", Check.ARGUMENT, court, () -> court.toss(Integer.MAX_VALUE));
    }

    private static void tossWithSlips() {
        Cascadecourt court = new Cascadecourt();
        court.take(5);
        Check.that("slip: 0 with a prop", -1, court.toss(0));
        Check.that("slip: that one is DROPPED", -1, court.ofProp(0, 0));
        Check.that("slip: DROPPED once", 1, court.ofProp(0, 2));
        Check.that("slip: one", 1, court.many(4));
        Check.that("slip: STATE", 15, court.many(2));
        Check.that("slip: meets another one", -1, court.toss(2));
        Check.that("slip: both are DROPPED", 3, court.many(5));
        Check.that("slip: the one that lands", -1, court.ofProp(1, 0));
        Check.that("slip: the one it would meet", -1, court.ofProp(3, 0));
        Check.that("slip: that one was DROPPED once", 1, court.ofProp(3, 2));
        Check.that("slip: BEAT", 2, court.many(3));
        Check.that("slip: STATE of two", 5, court.many(2));
        Check.that("toss(7) behind them", 2, court.toss(7));
        Check.that("slip: 4 with none, nothing is DROPPED", -1, court.toss(4));
        Check.that("slip: still 3", 3, court.many(5));
        Check.that("slip: three SLIPS", 3, court.many(4));
        Check.that("slip: no FLIGHTS by them", 1, court.many(6));
        Check.that("slip: 1 with none where one lands then", 33, court.many(2));
        court.toss(9);
        Check.that("slip: none lands, one would be met", -1, court.toss(4));
        Check.that("slip: it is not DROPPED", 3, court.many(5));
        Check.that("slip: four SLIPS", 4, court.many(4));
    }

    private static void tossWithoutProps() {
        Cascadecourt court = new Cascadecourt();
        Check.that("without: toss(0)", -1, court.toss(0));
        Check.that("without: no SLIP", 0, court.many(4));
        Check.that("without: toss(3)", -1, court.toss(3));
        Check.that("without: a SLIP", 1, court.many(4));
        Check.that("without: BEAT", 2, court.many(3));
        Check.that("without: STATE", 0, court.many(2));
        Check.that("without: beats ever", 2, court.many(9));
        Check.that("without: DROPPED", 0, court.many(5));
        Check.that("without: pick()", -1, court.pick());
        court.take(1);
        Check.that("take: BEAT again", 0, court.many(3));
    }

    private static void run() {
        Cascadecourt court = new Cascadecourt();
        court.tell(531, 3);
        court.tell(51, 2);
        court.take(3);
        Check.that("run 531", 0, court.run(0, 0, 30));
        Check.that("run: STATE", 7, court.many(2));
        Check.that("run: BEAT", 30, court.many(3));
        Check.that("run: FLIGHTS", 30, court.many(6));
        Check.that("run 531, 2 beats", 0, court.run(0, 0, 2));
        Check.that("run: the STATE behind 5 and 3", 13, court.many(2));
        Check.that("run 531 from SITE 2, to SITE 0 and on", 0, court.run(0, 2, 4));
        Check.that("run: the GROUND again", 7, court.many(2));
        // From the GROUND 3 goes on, but 1 meets another prop.
        Check.that("run 531 from SITE 1, 2 beats", 1, court.run(0, 1, 2));
        Check.that("run: the STATE behind a SLIP", 2, court.many(2));
        Check.that("run: FLIGHTS of all", 37, court.many(6));
        Check.that("run: BEAT of all", 38, court.many(3));
        court.take(3);
        Check.that("run 51", 0, court.run(1, 0, 1));
        Check.that("run: the STATE behind 5", 19, court.many(2));
        // 1 meets: two are DROPPED; the last one is to land in 3 beats, and nothing lands till then.
        Check.that("run 51 from SITE 1, with SLIPS", 4, court.run(1, 1, 4));
        Check.that("run: two are DROPPED", 2, court.many(5));
        Check.that("run: the last one lands", 1, court.many(2));
        Check.that("run: SLIPS ever", 5, court.many(4));
        // With one prop 5 and 1 fit it, and the four THROWS between them do not.
        Check.that("run 51 of one", 20, court.run(1, 0, 29));
        Check.that("run: SLIPS ever again", 25, court.many(4));
        Check.that("run: beats ever", 72, court.many(9));
        Check.fails("run(2, 0, 1)", Check.INDEX, court, () -> court.run(2, 0, 1));
        Check.fails("run(-1, 0, 1)", Check.INDEX, court, () -> court.run(-1, 0, 1));
        Check.fails("run(1, 2, 1)", Check.INDEX, court, () -> court.run(1, 2, 1));
        Check.fails("run(1, -1, 1)", Check.INDEX, court, () -> court.run(1, -1, 1));
        Check.fails("run(1, 0, 0)", Check.ARGUMENT, court, () -> court.run(1, 0, 0));
        Check.fails("run(1, 0, 31)", Check.ARGUMENT, court, () -> court.run(1, 0, 31));
        Check.fails("run(1, 0, -1)", Check.ARGUMENT, court, () -> court.run(1, 0, -1));
        Check.fails("run(1, 2, 0)", Check.INDEX, court, () -> court.run(1, 2, 0));
        Check.fails("run(2, 0, 31)", Check.INDEX, court, () -> court.run(2, 0, 31));
        Cascadecourt none = new Cascadecourt();
        none.tell(40, 2);
        Check.that("run without props", 2, none.run(0, 0, 4));
        Check.that("run without props: BEAT", 4, none.many(3));
    }

    private static void pick() {
        Cascadecourt court = new Cascadecourt();
        court.take(3);
        Check.that("pick: none is DROPPED", -1, court.pick());
        court.toss(0);
        Check.that("pick: a prop lands", -1, court.pick());
        court.toss(1);
        Check.that("pick: all are DROPPED", 3, court.many(5));
        Check.that("pick: STATE of none", 0, court.many(2));
        Check.that("pick()", 0, court.pick());
        Check.that("pick: STATE", 1, court.many(2));
        Check.that("pick: it is to land now", 0, court.ofProp(0, 0));
        Check.that("pick: it lands now", 0, court.many(8));
        Check.that("pick: how often it was DROPPED", 1, court.ofProp(0, 2));
        Check.that("pick: BEAT", 2, court.many(3));
        Check.that("pick: tired", 0.0, court.tired());
        Check.that("pick: no SLIP", 2, court.many(4));
        Check.that("pick: one lands now", -1, court.pick());
        Check.that("pick: FLIGHTS", 0, court.ofProp(0, 1));
        Check.that("pick and toss(4)", 0, court.toss(4));
        Check.that("pick: the next", 1, court.pick());
        Check.that("pick: STATE of two", 9, court.many(2));
        court.toss(0);
        Check.that("pick: DROPPED twice", 2, court.ofProp(1, 2));
        Check.that("pick: the smallest one again", 1, court.pick());
        Check.that("pick: two are up, one is DROPPED", 1, court.many(5));
    }
}
