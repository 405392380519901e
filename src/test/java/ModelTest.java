import java.util.ArrayList;
import java.util.Arrays;
import java.util.Collections;
import java.util.List;
import java.util.Random;

/** Long runs of mixed calls, each answer against a model that is written from the document in another way. */
public final class ModelTest {
    private static final int RUNS = 400;
    private static final int CALLS = 256;

    public static void main(String[] args) {
        for (int seed = 1; seed <= RUNS; seed++) {
            compareRun(seed);
        }
        Check.end("ModelTest");
    }

    private static void compareRun(int seed) {
        Random random = new Random(seed);
        Cascadecourt court = new Cascadecourt();
        Model model = new Model();
        for (int call = 0; call < CALLS; call++) {
            int kind = random.nextInt(23);
            int[] given = kind == 0 && random.nextInt(4) > 0 ? soundRow(random) : numbers(random, kind);
            String what = "run " + seed + ", call " + call + ", " + kind + " " + Arrays.toString(given);
            Object due = Check.outcome(() -> dueOf(model, kind, given));
            Check.that(what, due, Check.outcome(() -> callOf(court, kind, given)));
            if (call % 4 == 0) {
                Check.that(what + ": digest", model.digest(), court.digest());
            }
        }
    }

    private static int[] numbers(Random random, int kind) {
        return new int[] {number(random, kind, 0), number(random, kind, 1), number(random, kind, 2)};
    }

    /** What tell() is given for a SOUND ROW, as few lists of THROWS are sound by chance. */
    private static int[] soundRow(Random random) {
        int length = 1 + random.nextInt(8);
        List<Integer> landings = new ArrayList<>();
        for (int site = 0; site < length; site++) {
            landings.add(site);
        }
        Collections.shuffle(landings, random);
        int told = 0;
        for (int site = 0; site < length; site++) {
            int height = Math.floorMod(landings.get(site) - site, length);
            while (height + length <= 9 && random.nextInt(3) == 0) {
                height += length;
            }
            told = told * 10 + height;
        }
        return new int[] {told, length, 0};
    }

    /** Mostly what fits the call, so that the runs come far; now and then something else. */
    private static int number(Random random, int kind, int place) {
        if (random.nextInt(40) == 0) {
            return random.nextInt(14) - 2;
        }
        if (kind == 0) {
            return place == 0 ? random.nextInt(1 << random.nextInt(28)) : 1 + random.nextInt(8);
        }
        if (kind == 3 && place == 1) {
            return random.nextInt(5) - 2;
        }
        if (kind == 9 && place == 2) {
            return 1 + random.nextInt(random.nextBoolean() ? 3 : 30);
        }
        if (kind == 7 || kind == 20 && place == 0) {
            return 1 + random.nextInt(kind == 7 ? 6 : 4);
        }
        int bound = place == 0 ? 8 : place == 1 ? 4 : 5;
        return random.nextInt(kind == 8 || kind == 18 || kind == 15 || place == 1 && random.nextBoolean() ? 10 : bound);
    }

    private static Object callOf(Cascadecourt court, int kind, int[] given) {
        int a = given[0];
        int b = given[1];
        int c = given[2];
        switch (kind) {
            case 0: return court.tell(a, b);
            case 1: return court.shift(a, b);
            case 2: return court.swap(a, b, c);
            case 3: return court.raise(a, b);
            case 4: return court.turn(a);
            case 5: return court.join(a, b);
            case 6: return court.pick();
            case 7: return court.take(a);
            case 8: return court.toss(a);
            case 9: return court.run(a, b, c);
            case 10: return court.ofRow(a, b);
            case 11: return court.ofSite(a, b, c);
            case 12: return court.text(a);
            case 13: return court.ofProp(a, b);
            case 14: return court.tired();
            case 15: return court.many(a);
            case 16: return court.high(a);
            case 17: return court.way(a);
            case 18: return court.would(a);
            case 19: return court.first(a);
            case 20: return court.count(a, b);
            case 21: return court.alike(a, b);
            default: return court.digest();
        }
    }

    private static Object dueOf(Model model, int kind, int[] given) {
        int a = given[0];
        int b = given[1];
        int c = given[2];
        switch (kind) {
            case 0: return model.tell(a, b);
            case 1: return model.shift(a, b);
            case 2: return model.swap(a, b, c);
            case 3: return model.raise(a, b);
            case 4: return model.turn(a);
            case 5: return model.join(a, b);
            case 6: return model.pick();
            case 7: return model.take(a);
            case 8: return model.toss(a);
            case 9: return model.run(a, b, c);
            case 10: return model.ofRow(a, b);
            case 11: return model.ofSite(a, b, c);
            case 12: return model.text(a);
            case 13: return model.ofProp(a, b);
            case 14: return model.tired();
            case 15: return model.many(a);
            case 16: return model.high(a);
            case 17: return model.way(a);
            case 18: return model.would(a);
            case 19: return model.first(a);
            case 20: return model.count(a, b);
            case 21: return model.alike(a, b);
            default: return model.digest();
        }
    }
}
