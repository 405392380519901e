import java.util.Objects;

/** What the tests of this project share: they count wrong answers, print them and end with exit code 1. */
final class Check {
    interface Call {
        Object answer();
    }

    static final Class<IndexOutOfBoundsException> INDEX = IndexOutOfBoundsException.class;
    static final Class<IllegalArgumentException> ARGUMENT = IllegalArgumentException.class;
    static final Class<IllegalStateException> STATE = IllegalStateException.class;

    private static int made = 0;
    private static int wrong = 0;
    private static int sentences = 0;
    private static int madeAheadOfSentence = 0;
    private static String sentence = "";

    private Check() {
    }

    /** What the checks behind this hold: where the document says it (a promise, the Terms), and its words. */
    static void sentence(String place, String words) {
        sentenceHasChecks();
        sentences++;
        sentence = place + ", \"" + words + "\": ";
        madeAheadOfSentence = made;
    }

    private static void sentenceHasChecks() {
        if (!sentence.isEmpty() && made == madeAheadOfSentence) {
            wrong++;
            System.out.println(sentence + "no check holds it");
        }
    }

    static void that(String what, Object due, Object got) {
        made++;
        if (!Objects.equals(due, got)) {
            wrong++;
            System.out.println(sentence + what + ": answered " + got + ", due is " + due);
        }
    }

    /** The call throws just that exception, and changes nothing. */
    static void fails(String what, Class<? extends RuntimeException> due, Cascadecourt court, Call call) {
        keepsAll(what, due, court, call);
    }

    /** The call throws nothing. */
    static void answers(String what, Call call) {
        Object got = outcome(call);
        that(what + " (" + got + ") is an answer", false, got instanceof Class);
    }

    /** The call answers that, and changes nothing. */
    static void keepsAll(String what, Object due, Cascadecourt court, Call call) {
        String before = Courts.all(court);
        that(what, due, outcome(call));
        that(what + ": all answers behind it", before, Courts.all(court));
    }

    /** What the call answers, or the class of what it throws. */
    static Object outcome(Call call) {
        try {
            return call.answer();
        } catch (RuntimeException thrown) {
            return thrown.getClass();
        }
    }

    static void end(String test) {
        sentenceHasChecks();
        String held = sentences == 0 ? "" : sentences + " sentences, ";
        System.out.println(test + ": " + held + made + " checks, " + wrong + " wrong");
        if (wrong != 0) {
            System.exit(1);
        }
    }
}
