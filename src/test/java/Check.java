import java.util.Objects;

/** What the tests of this project share: they count wrong answers, print them and end with exit code 1. */
final class Check {
    interface Call {
        Object answer();
    }

    private static int made = 0;
    private static int wrong = 0;

    private Check() {
    }

    static void that(String what, Object due, Object got) {
        made++;
        if (!Objects.equals(due, got)) {
            wrong++;
            System.out.println(what + ": answered " + got + ", due is " + due);
        }
    }

    /** The call throws just that exception, and changes nothing. */
    static void fails(String what, Class<? extends RuntimeException> due, Cascadecourt court, Call call) {
        long before = court.digest();
        Object got;
        try {
            got = call.answer();
        } catch (RuntimeException thrown) {
            got = thrown.getClass();
        }
        that(what, due, got);
        that(what + ": the digest behind it", before, court.digest());
    }

    static void end(String test) {
        System.out.println(test + ": " + made + " checks, " + wrong + " wrong");
        if (wrong != 0) {
            System.exit(1);
        }
    }
}
