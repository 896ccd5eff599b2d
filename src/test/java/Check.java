import java.util.function.LongSupplier;

/** Counts the answers that are not the ones that are due. */
final class Check {
    private int wrong = 0;
    private int looked = 0;
    private String words = "";

    void due(String what, long got, long want) {
        same(what, "" + got, "" + want);
    }

    void isTrue(String what, boolean holds) {
        due(what, holds ? 1 : 0, 1);
    }

    void dueThrow(String what, Class<? extends RuntimeException> want, LongSupplier call) {
        same(what, outcome(call), want.getName());
    }

    void same(String what, String got, String want) {
        looked++;
        if (!got.equals(want)) {
            wrong++;
            System.out.println(words + what + " answered " + got + ", due is " + want);
        }
    }

    /** What the call answers, or the name of what it throws. */
    static String outcome(LongSupplier call) {
        try {
            return "" + call.getAsLong();
        } catch (RuntimeException e) {
            return e.getClass().getName();
        }
    }

    /** A test of one sentence of the document, which fails alone. */
    void sentence(String sentence, Runnable test) {
        int before = looked;
        words = "\"" + sentence + "\": ";
        try {
            test.run();
        } catch (RuntimeException e) {
            same("the test", e.toString(), "no exception");
        }
        isTrue("the test looks at something", looked > before);
        words = "";
    }

    void end() {
        System.out.println(looked + " answers looked at, " + wrong + " wrong");
        if (wrong != 0 || looked == 0) {
            System.exit(1);
        }
    }
}
