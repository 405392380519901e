import java.util.ArrayDeque;
import java.util.Deque;
import java.util.HashSet;
import java.util.Set;

/** Every STATE that 1 to 6 props can have, and from each the way into some ROWS and each THROW, against the model. */
public final class EveryStateTest {
    private static final String[] ROWS = {"1", "80000000", "31", "51", "441", "62", "97531", "75"};

    public static void main(String[] args) {
        int states = 0;
        for (int props = 1; props <= 6; props++) {
            states += compareStates(props);
        }
        Check.that("how many STATES there are", 9 + 36 + 84 + 126 + 126 + 84, states);
        Check.end("EveryStateTest");
    }

    /** How many STATES the props come to; each is reached by the THROWS that led to it first. */
    private static int compareStates(int props) {
        Set<Integer> found = new HashSet<>();
        Deque<String> waiting = new ArrayDeque<>();
        waiting.add("");
        found.add(modelBehind(props, "").many(2));
        while (!waiting.isEmpty()) {
            String tossed = waiting.remove();
            compareState(props, tossed);
            Model model = modelBehind(props, tossed);
            for (int height = 0; height <= 9; height++) {
                if (model.would(height) >= 0 && found.add(model.would(height))) {
                    waiting.add(tossed + height);
                }
            }
        }
        return found.size();
    }

    private static void compareState(int props, String tossed) {
        String at = props + " props, tossed " + tossed + ": ";
        Model model = modelBehind(props, tossed);
        Cascadecourt court = courtBehind(props, tossed);
        for (int row = 0; row < ROWS.length; row++) {
            Check.that(at + "way into " + ROWS[row], model.way(row), court.way(row));
            Check.that(at + "first into " + ROWS[row], model.first(row), court.first(row));
        }
        for (int height = 0; height <= 9; height++) {
            Check.that(at + "would " + height, model.would(height), court.would(height));
            compareThrow(at + "toss " + height, height, modelBehind(props, tossed), courtBehind(props, tossed));
        }
    }

    private static void compareThrow(String what, int height, Model model, Cascadecourt court) {
        Check.that(what, model.toss(height), court.toss(height));
        compareProps(what, model, court);
        for (int beat = 0; beat < 9; beat++) {
            Check.that(what + ", then pick", model.pick(), court.pick());
            int now = model.many(8) < 0 ? 0 : 1;
            Check.that(what + ", then " + now, model.toss(now), court.toss(now));
        }
        compareProps(what + ", then picked up", model, court);
    }

    private static void compareProps(String what, Model model, Cascadecourt court) {
        Check.that(what + ": tired", model.tired(), court.tired());
        for (int asked = 0; asked <= 9; asked++) {
            Check.that(what + ": many " + asked, model.many(asked), court.many(asked));
        }
        for (int prop = 0; prop < model.many(1); prop++) {
            for (int asked = 0; asked <= 3; asked++) {
                Check.that(what + ": ofProp " + prop + " " + asked, model.ofProp(prop, asked),
                        court.ofProp(prop, asked));
            }
        }
    }

    private static Model modelBehind(int props, String tossed) {
        Model model = new Model();
        for (String row : ROWS) {
            model.tell(Integer.parseInt(row), row.length());
        }
        model.take(props);
        for (char height : tossed.toCharArray()) {
            model.toss(height - '0');
        }
        return model;
    }

    private static Cascadecourt courtBehind(int props, String tossed) {
        Cascadecourt court = Courts.with(ROWS);
        court.take(props);
        for (char height : tossed.toCharArray()) {
            court.toss(height - '0');
        }
        return court;
    }
}
