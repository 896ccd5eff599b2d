import java.util.function.Consumer;
import java.util.function.Supplier;

/** What the tests of the document's words share: names, and short ways to tell a history. */
abstract class Histories {
    static final int NOTHING = LinearHistories.NOTHING;
    static final int NONE = LinearHistories.NONE, MANY = LinearHistories.MANY;
    static final int REGISTER = 0, QUEUE = 1, STACK = 2, SET = 3, HEAP = 4, MAP = 5;
    static final int LEAST = Integer.MIN_VALUE, MOST = Integer.MAX_VALUE;
    static final Class<IllegalArgumentException> ARGUMENT = IllegalArgumentException.class;
    static final Class<IllegalStateException> STATE = IllegalStateException.class;
    static final Class<IndexOutOfBoundsException> BOUNDS = IndexOutOfBoundsException.class;

    /** Operation numbers: of registers; of queues, stacks and heaps; of sets; of maps. */
    static final int READ = 0, WRITE = 1, SWAP = 2, COMPARE = 3, ADD = 4;
    static final int PUT = 0, TAKE = 1, SIZE = 2;
    static final int INSERT = 0, REMOVE = 1, HAS = 2;
    static final int GET = 1, DELETE = 2;

    static final Check CHECK = new Check();

    static LinearHistories with(int... kinds) {
        LinearHistories x = new LinearHistories();
        for (int kind : kinds) {
            x.object(kind);
        }
        return x;
    }

    static void sequential(LinearHistories x, int process, int object, int code, int a, int b, int result) {
        x.call(process, object, code, a, b);
        x.back(process, result);
    }

    static void lost(LinearHistories x, int process, int object, int code, int a, int b) {
        x.call(process, object, code, a, b);
        x.lose(process);
    }

    static long back(LinearHistories x, int process, int result) {
        x.back(process, result);
        return 0;
    }

    static long lose(LinearHistories x, int process) {
        x.lose(process);
        return 0;
    }

    static int[] step(int code, int a, int b, int result) {
        return new int[] {code, a, b, result};
    }

    /** An object whose operations were done one after the other, by all processes in turn. */
    static LinearHistories done(int kind, int[]... steps) {
        LinearHistories x = with(kind);
        for (int i = 0; i < steps.length; i++) {
            sequential(x, i % 8, 0, steps[i][0], steps[i][1], steps[i][2], steps[i][3]);
        }
        return x;
    }

    /** The last one of the operations comes back with the result that it has, and with no other. */
    static void only(String what, int kind, int[]... steps) {
        int[] last = steps[steps.length - 1];
        int due = last[3];
        CHECK.due(what + " with " + due, done(kind, steps).judge(0), 1);
        for (int other : new int[] {due + 1, due - 1, -due, 0, 1, 7, NONE, MANY, NOTHING, MOST}) {
            if (other != due) {
                last[3] = other;
                CHECK.due(what + " with " + other, done(kind, steps).judge(0), 0);
            }
        }
        last[3] = due;
    }

    static void dueRow(String what, LinearHistories x, int[] numbers, int[] results) {
        CHECK.due(what + " length", x.length(), numbers.length);
        for (int i = 0; i < numbers.length; i++) {
            CHECK.due(what + " row " + i, x.row(i), numbers[i]);
            CHECK.due(what + " result " + i, x.result(i), results[i]);
        }
        int behind = numbers.length;
        CHECK.dueThrow(what + " row behind", BOUNDS, () -> x.row(behind));
        CHECK.dueThrow(what + " result behind", BOUNDS, () -> x.result(behind));
        CHECK.dueThrow(what + " row -1", BOUNDS, () -> x.row(-1));
        CHECK.dueThrow(what + " result -1", BOUNDS, () -> x.result(-1));
        CHECK.dueThrow(what + " row far away", BOUNDS, () -> x.row(LEAST));
        CHECK.dueThrow(what + " result far away", BOUNDS, () -> x.result(MOST));
    }

    /** The row by its operations alone. */
    static String row(LinearHistories x) {
        StringBuilder text = new StringBuilder();
        for (int i = 0; i < x.length(); i++) {
            text.append(i == 0 ? "" : " ").append(x.row(i));
        }
        return text.toString();
    }

    /** Every answer that asking alone can give. */
    static String picture(LinearHistories x) {
        StringBuilder text = new StringBuilder();
        text.append(x.events()).append(' ').append(x.linear()).append(' ').append(Check.outcome(x::length));
        for (int i = -1; i <= 48; i++) {
            int at = i;
            text.append(' ').append(Check.outcome(() -> x.row(at)));
            text.append(' ').append(Check.outcome(() -> x.result(at)));
        }
        for (int i = -1; i <= 6; i++) {
            int object = i;
            text.append("\n").append(i).append(": ").append(Check.outcome(() -> x.possibilities(object)));
            text.append(' ').append(Check.outcome(() -> x.judge(object)));
            text.append(' ').append(Check.outcome(() -> x.judgeOwn(object)));
            text.append(' ').append(Check.outcome(() -> x.ways(object)));
            text.append(' ').append(Check.outcome(() -> x.lasts(object)));
            text.append(' ').append(Check.outcome(() -> x.broken(object)));
        }
        return text.toString();
    }

    /** The picture, and what can be told of the object only by going on with it. */
    private static String future(LinearHistories x) {
        StringBuilder text = new StringBuilder(picture(x));
        for (int i = 0; i < 8; i++) {
            int process = i;
            text.append("\nback ").append(Check.outcome(() -> back(x, process, 0)));
            text.append("\ncall ").append(Check.outcome(() -> x.call(process, 0, 1, 5, 6)));
        }
        text.append(picture(x));
        text.append("\nobject ").append(Check.outcome(() -> x.object(SET)));
        text.append("\nclear ").append(x.clear()).append(picture(x));
        return text.toString();
    }

    /** Of two equal histories one has the refused call, and no answer tells which. */
    static void unchanged(String what, Supplier<LinearHistories> history, Consumer<LinearHistories> refused) {
        LinearHistories x = history.get();
        refused.accept(x);
        CHECK.same(what + ": what follows", future(x), future(history.get()));
        LinearHistories asked = history.get();
        picture(asked);
        refused.accept(asked);
        CHECK.same(what + ": what follows, asked before", future(asked), future(history.get()));
    }
}
