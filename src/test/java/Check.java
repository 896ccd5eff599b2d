import java.util.function.LongSupplier;

/** Counts the answers that are not the ones that are due. */
final class Check {
    private int wrong = 0;
    private int looked = 0;

    void due(String what, long got, long want) {
        looked++;
        if (got != want) {
            wrong++;
            System.out.println(what + " answered " + got + ", due is " + want);
        }
    }

    void isTrue(String what, boolean holds) {
        due(what, holds ? 1 : 0, 1);
    }

    void dueThrow(String what, Class<? extends RuntimeException> want, LongSupplier call) {
        String got;
        try {
            got = "" + call.getAsLong();
        } catch (RuntimeException e) {
            got = e.getClass().getName();
        }
        looked++;
        if (!got.equals(want.getName())) {
            wrong++;
            System.out.println(what + " answered " + got + ", due is " + want.getName());
        }
    }

    void end() {
        System.out.println(looked + " answers looked at, " + wrong + " wrong");
        if (wrong != 0 || looked == 0) {
            System.exit(1);
        }
    }
}
