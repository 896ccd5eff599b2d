/** Each sentence of the document's terms that names a boundary case, with a test of its own. */
public final class TermsBoundaryTest extends Histories {
    public static void main(String[] args) {
        registers();
        queues();
        stacks();
        sets();
        heaps();
        maps();
        events();
        possibilities();
        rows();
        ownOrders();
        refusals();
        CHECK.sentence("An object is used for at most 512 calls after it has been made",
            TermsBoundaryTest::wholeLife);
        CHECK.end();
    }

    private static void registers() {
        CHECK.sentence("NOTHING is -2147483648.",
            () -> CHECK.due("NOTHING", LinearHistories.NOTHING, -2147483648L));
        CHECK.sentence("REGISTER, a value, 0 at first", TermsBoundaryTest::registerAtFirst);
        CHECK.sentence("read: the value.", TermsBoundaryTest::registerRead);
        CHECK.sentence("write: a becomes the value; 0.", TermsBoundaryTest::registerWrite);
        CHECK.sentence("swap: likewise, but its result is what was there.", TermsBoundaryTest::registerSwap);
        CHECK.sentence("compare: if a is the value, b becomes it, and 1; else 0.",
            TermsBoundaryTest::registerCompare);
        CHECK.sentence("add: the value grows by a (wrapping); what was there.", TermsBoundaryTest::registerAdd);
    }

    private static void registerAtFirst() {
        only("read", REGISTER, step(READ, 7, 7, 0));
        only("swap", REGISTER, step(SWAP, 7, 7, 0));
        only("add", REGISTER, step(ADD, 7, 7, 0));
        only("compare with 0", REGISTER, step(COMPARE, 0, 7, 1));
        only("compare with another", REGISTER, step(COMPARE, 7, 7, 0));
    }

    private static void registerRead() {
        for (int value : new int[] {MOST, LEAST, LEAST + 1, NONE, MANY, 0}) {
            only("read of " + value, REGISTER, step(WRITE, value, 3, 0), step(READ, 9, 9, value));
            only("a second read of " + value, REGISTER,
                step(WRITE, value, 3, 0), step(READ, 9, 9, value), step(READ, 0, 0, value));
        }
    }

    private static void registerWrite() {
        only("a first write", REGISTER, step(WRITE, MOST, 1, 0));
        only("a write of what is there", REGISTER, step(WRITE, LEAST, 0, 0), step(WRITE, LEAST, 0, 0));
    }

    private static void registerSwap() {
        only("swap", REGISTER, step(SWAP, LEAST, 0, 0), step(SWAP, MOST, 0, LEAST));
        only("read behind it", REGISTER, step(SWAP, LEAST, 0, 0), step(SWAP, MOST, 0, LEAST), step(READ, 0, 0, MOST));
    }

    private static void registerCompare() {
        only("it is not the value", REGISTER, step(WRITE, LEAST, 0, 0), step(COMPARE, MOST, 5, 0));
        only("then the value stays", REGISTER,
            step(WRITE, LEAST, 0, 0), step(COMPARE, MOST, 5, 0), step(READ, 0, 0, LEAST));
        only("it is the value", REGISTER, step(WRITE, LEAST, 0, 0), step(COMPARE, LEAST, MOST, 1));
        only("then b is", REGISTER,
            step(WRITE, LEAST, 0, 0), step(COMPARE, LEAST, MOST, 1), step(READ, 0, 0, MOST));
        only("b is the value already", REGISTER, step(WRITE, 5, 0, 0), step(COMPARE, 4, 5, 0));
        only("a and b are both the value", REGISTER, step(WRITE, 5, 0, 0), step(COMPARE, 5, 5, 1));
    }

    private static void registerAdd() {
        only("the most and 1", REGISTER, step(WRITE, MOST, 0, 0), step(ADD, 1, 0, MOST), step(READ, 0, 0, LEAST));
        only("the least and -1", REGISTER, step(WRITE, LEAST, 0, 0), step(ADD, -1, 0, LEAST), step(READ, 0, 0, MOST));
        only("the least twice", REGISTER, step(ADD, LEAST, 0, 0), step(ADD, LEAST, 0, LEAST), step(READ, 0, 0, 0));
        only("the most twice", REGISTER, step(ADD, MOST, 0, 0), step(ADD, MOST, 0, MOST), step(READ, 0, 0, -2));
        only("what was there", REGISTER, step(WRITE, MOST, 0, 0), step(ADD, MOST, 0, MOST));
        LinearHistories x = with(REGISTER);
        lost(x, 0, 0, ADD, MOST, 0);
        lost(x, 0, 0, ADD, 1, 0);
        lost(x, 0, 0, WRITE, LEAST, 0);
        CHECK.due("0, 1, -1, the most, the least, which comes by a sum too, and one more", x.lasts(0), 6);
    }

    private static void queues() {
        CHECK.sentence("QUEUE, empty at first", () -> {
            only("size", QUEUE, step(SIZE, 5, 5, 0));
            only("take", QUEUE, step(TAKE, 5, 5, NOTHING));
        });
        CHECK.sentence("put: a comes to its end; 0.", () -> {
            only("put", QUEUE, step(PUT, MOST, 5, 0));
            only("put behind another", QUEUE, step(PUT, MOST, 5, 0), step(PUT, LEAST, 5, 0));
            only("a sixteenth put", QUEUE, filled(15, step(PUT, 3, 3, 0)));
            lastTwo("the end of sixteen", QUEUE, 14, 2);
            firstTwo("the front of sixteen", QUEUE, 14, 2);
        });
        CHECK.sentence("take: the first one goes: that; NOTHING if it is empty.", TermsBoundaryTest::queueTake);
        CHECK.sentence("2 size: how many there are.", () -> sizes(QUEUE));
    }

    private static void queueTake() {
        only("of fifteen", QUEUE, filled(15, step(TAKE, 0, 0, 100)));
        only("of one", QUEUE, step(PUT, LEAST + 1, 0, 0), step(TAKE, 0, 0, LEAST + 1));
        only("emptied", QUEUE, step(PUT, 4, 0, 0), step(TAKE, 0, 0, 4), step(TAKE, 0, 0, NOTHING));
        only("empty twice", QUEUE, step(TAKE, 0, 0, NOTHING), step(TAKE, 0, 0, NOTHING));
        only("behind an empty one", QUEUE, step(TAKE, 0, 0, NOTHING), step(PUT, 4, 0, 0), step(TAKE, 0, 0, 4));
        only("NOTHING that was put", QUEUE, step(PUT, NOTHING, 0, 0), step(PUT, 4, 0, 0), step(TAKE, 0, 0, NOTHING));
        only("what is behind it", QUEUE,
            step(PUT, NOTHING, 0, 0), step(PUT, 4, 0, 0), step(TAKE, 0, 0, NOTHING), step(TAKE, 0, 0, 4));
        int[][] turns = new int[16][];
        for (int i = 0; i < 16; i += 2) {
            turns[i] = step(PUT, i, 0, 0);
            turns[i + 1] = step(TAKE, 0, 0, i);
        }
        only("eight times in turn", QUEUE, turns);
        int[][] halves = new int[16][];
        for (int i = 0; i < 8; i++) {
            halves[i] = step(PUT, 50 - i, 0, 0);
            halves[i + 8] = step(TAKE, 0, 0, 50 - i);
        }
        only("eight and then eight", QUEUE, halves);
    }

    /** So many puts of 100, 101 and so on, and the step behind them. */
    private static int[][] filled(int count, int[] last) {
        int[][] steps = new int[count + 1][];
        for (int i = 0; i < count; i++) {
            steps[i] = step(PUT, 100 + i, 0, 0);
        }
        steps[count] = last;
        return steps;
    }

    private static void sizes(int kind) {
        for (int count = 0; count <= 15; count++) {
            only("size of " + count, kind, filled(count, step(SIZE, 0, 0, count)));
        }
        only("size behind taking from nothing", kind, step(TAKE, 0, 0, NOTHING), step(SIZE, 0, 0, 0));
        only("size when NOTHING is in it", kind, step(PUT, NOTHING, 0, 0), step(SIZE, 0, 0, 1));
        only("size of equal ones", kind, step(PUT, 4, 0, 0), step(PUT, 4, 0, 0), step(SIZE, 0, 0, 2));
        only("size when it is empty again", kind,
            step(PUT, 4, 0, 0), step(TAKE, 0, 0, 4), step(TAKE, 0, 0, NOTHING), step(SIZE, 0, 0, 0));
    }

    /** Two at once behind so many others: in how many states they can leave the object. */
    private static void lastTwo(String what, int kind, int others, int due) {
        LinearHistories x = with(kind);
        for (int i = 0; i < others; i++) {
            sequential(x, 0, 0, PUT, 100 + i, 0, 0);
        }
        twoAtOnce(x);
        CHECK.due(what + ": lasts", x.lasts(0), due);
        CHECK.due(what + ": possibilities", x.possibilities(0), others + 1 + 2 + due);
        CHECK.due(what + ": ways", x.ways(0), 2);
    }

    private static void firstTwo(String what, int kind, int others, int due) {
        LinearHistories x = with(kind);
        twoAtOnce(x);
        for (int i = 0; i < others; i++) {
            sequential(x, 0, 0, PUT, 100 + i, 0, 0);
        }
        CHECK.due(what + ": lasts", x.lasts(0), due);
        CHECK.due(what + ": possibilities", x.possibilities(0), 1 + 2 + due + due * others);
    }

    private static void twoAtOnce(LinearHistories x) {
        x.call(0, 0, PUT, 1, 0);
        x.call(1, 0, PUT, 999, 0);
        x.back(0, 0);
        x.back(1, 0);
    }

    private static void stacks() {
        CHECK.sentence("STACK, empty", () -> {
            only("size", STACK, step(SIZE, 5, 5, 0));
            only("pop", STACK, step(TAKE, 5, 5, NOTHING));
        });
        CHECK.sentence("push a; 0.", () -> {
            only("push", STACK, step(PUT, MOST, 5, 0));
            only("a sixteenth push", STACK, filled(15, step(PUT, 3, 3, 0)));
            lastTwo("the end of sixteen", STACK, 14, 2);
            firstTwo("the bottom of sixteen", STACK, 14, 2);
        });
        CHECK.sentence("pop: the last one goes: that; NOTHING if it is empty.", TermsBoundaryTest::stackPop);
        CHECK.sentence("NOTHING if it is empty. 2 size.", () -> sizes(STACK));
    }

    private static void stackPop() {
        only("of fifteen", STACK, filled(15, step(TAKE, 0, 0, 114)));
        only("emptied", STACK, step(PUT, 4, 0, 0), step(TAKE, 0, 0, 4), step(TAKE, 0, 0, NOTHING));
        only("empty twice", STACK, step(TAKE, 0, 0, NOTHING), step(TAKE, 0, 0, NOTHING));
        only("behind an empty one", STACK, step(TAKE, 0, 0, NOTHING), step(PUT, 4, 0, 0), step(TAKE, 0, 0, 4));
        only("NOTHING that was pushed", STACK, step(PUT, 4, 0, 0), step(PUT, NOTHING, 0, 0), step(TAKE, 0, 0, NOTHING));
        only("what is below it", STACK,
            step(PUT, 4, 0, 0), step(PUT, NOTHING, 0, 0), step(TAKE, 0, 0, NOTHING), step(TAKE, 0, 0, 4));
        int[][] halves = new int[16][];
        for (int i = 0; i < 8; i++) {
            halves[i] = step(PUT, 50 - i, 0, 0);
            halves[15 - i] = step(TAKE, 0, 0, 50 - i);
        }
        only("eight and then eight", STACK, halves);
    }

    private static void sets() {
        CHECK.sentence("SET, empty", () -> {
            only("has 0", SET, step(HAS, 0, 5, 0));
            only("remove 0", SET, step(REMOVE, 0, 5, 0));
            only("insert 0", SET, step(INSERT, 0, 5, 1));
        });
        CHECK.sentence("insert a: 1 if it was not there, else 0.", TermsBoundaryTest::setInsert);
        CHECK.sentence("remove a: 1 if it was there, else 0.", TermsBoundaryTest::setRemove);
        CHECK.sentence("has a: 1 if it is there, else 0.", TermsBoundaryTest::setHas);
    }

    private static void setInsert() {
        for (int number : new int[] {LEAST, MOST, NONE, 0}) {
            only("insert " + number + " twice", SET, step(INSERT, number, 0, 1), step(INSERT, number, 5, 0));
            only("insert " + number + " behind its removal", SET,
                step(INSERT, number, 0, 1), step(REMOVE, number, 0, 1), step(INSERT, number, 0, 1));
        }
        only("insert another", SET, step(INSERT, LEAST, 0, 1), step(INSERT, MOST, 0, 1));
        int[][] sixteen = new int[16][];
        for (int i = 0; i < 16; i++) {
            sixteen[i] = step(INSERT, i * 64, 0, 1);
        }
        only("a sixteenth number", SET, sixteen);
        sixteen[15] = step(INSERT, 14 * 64, 0, 0);
        only("the fifteenth again", SET, sixteen);
    }

    private static void setRemove() {
        for (int number : new int[] {LEAST, MOST, NONE, 0}) {
            only("remove " + number + " twice", SET,
                step(INSERT, number, 0, 1), step(REMOVE, number, 0, 1), step(REMOVE, number, 0, 0));
        }
        only("remove another", SET, step(INSERT, 4, 0, 1), step(REMOVE, 5, 0, 0));
        only("which leaves the one", SET, step(INSERT, 4, 0, 1), step(REMOVE, 5, 0, 0), step(HAS, 4, 0, 1));
        only("once for two insertions", SET,
            step(INSERT, 4, 0, 1), step(INSERT, 4, 0, 0), step(REMOVE, 4, 0, 1), step(REMOVE, 4, 0, 0));
    }

    private static void setHas() {
        for (int number : new int[] {LEAST, MOST, NONE, 0}) {
            only("has " + number, SET, step(INSERT, number, 0, 1), step(HAS, number, 5, 1));
            only("has its neighbour", SET, step(INSERT, number, 0, 1), step(HAS, number + 1, 5, 0));
            only("has no more", SET, step(INSERT, number, 0, 1), step(REMOVE, number, 0, 1), step(HAS, number, 0, 0));
        }
        only("asking does not insert", SET, step(HAS, 4, 0, 0), step(HAS, 4, 0, 0));
    }

    private static void heaps() {
        CHECK.sentence("HEAP, empty, numbers perhaps several times", () -> {
            only("size", HEAP, step(SIZE, 5, 5, 0));
            only("take", HEAP, step(TAKE, 5, 5, NOTHING));
            only("twice", HEAP, step(PUT, 4, 0, 0), step(PUT, 4, 0, 0), step(TAKE, 0, 0, 4), step(TAKE, 0, 0, 4));
            only("not three times", HEAP, step(PUT, 4, 0, 0), step(PUT, 4, 0, 0), step(TAKE, 0, 0, 4),
                step(TAKE, 0, 0, 4), step(TAKE, 0, 0, NOTHING));
        });
        CHECK.sentence("put a; 0.", () -> {
            only("put", HEAP, step(PUT, MOST, 5, 0));
            only("a sixteenth put", HEAP, filled(15, step(PUT, 3, 3, 0)));
            lastTwo("sixteen", HEAP, 14, 1);
            firstTwo("sixteen", HEAP, 14, 1);
        });
        CHECK.sentence("take: a least one goes: that; NOTHING if it is empty.", TermsBoundaryTest::heapTake);
        CHECK.sentence("a least one goes: that; NOTHING if it is empty. 2 size.", () -> sizes(HEAP));
    }

    private static void heapTake() {
        only("emptied", HEAP, step(PUT, 4, 0, 0), step(TAKE, 0, 0, 4), step(TAKE, 0, 0, NOTHING));
        only("empty twice", HEAP, step(TAKE, 0, 0, NOTHING), step(TAKE, 0, 0, NOTHING));
        only("of the least and the most", HEAP, step(PUT, MOST, 0, 0), step(PUT, LEAST + 1, 0, 0),
            step(TAKE, 0, 0, LEAST + 1));
        only("NOTHING that was put is the least", HEAP, step(PUT, LEAST + 1, 0, 0), step(PUT, NOTHING, 0, 0),
            step(TAKE, 0, 0, NOTHING));
        only("what is left of it", HEAP, step(PUT, LEAST + 1, 0, 0), step(PUT, NOTHING, 0, 0),
            step(TAKE, 0, 0, NOTHING), step(TAKE, 0, 0, LEAST + 1));
        only("rising", HEAP, filled(15, step(TAKE, 0, 0, 100)));
        int[][] falling = new int[16][];
        int[][] mixed = new int[16][];
        for (int i = 0; i < 8; i++) {
            falling[i] = step(PUT, 50 - i, 0, 0);
            falling[i + 8] = step(TAKE, 0, 0, 43 + i);
            mixed[i] = step(PUT, i * 3 % 8 - 4, 0, 0);
            mixed[i + 8] = step(TAKE, 0, 0, i - 4);
        }
        only("falling", HEAP, falling);
        only("mixed", HEAP, mixed);
    }

    private static void maps() {
        CHECK.sentence("MAP, empty, with keys 0 .. 7", TermsBoundaryTest::mapKeys);
        CHECK.sentence("put: the key a has the value b; its value before, NOTHING if it had none.", () -> {
            only("none", MAP, step(PUT, 7, MOST, NOTHING));
            only("a value before", MAP, step(PUT, 7, MOST, NOTHING), step(PUT, 7, 0, MOST));
            only("0 is a value", MAP, step(PUT, 0, 0, NOTHING), step(PUT, 0, 5, 0));
            only("the same value", MAP, step(PUT, 0, 5, NOTHING), step(PUT, 0, 5, 5));
            only("of another key", MAP, step(PUT, 0, 5, NOTHING), step(PUT, 1, 5, NOTHING));
        });
        CHECK.sentence("get: the value of the key a, or NOTHING.", () -> {
            only("none", MAP, step(GET, 0, 5, NOTHING));
            only("the least value but one", MAP, step(PUT, 7, LEAST + 1, NOTHING), step(GET, 7, 5, LEAST + 1));
            only("it stays", MAP, step(PUT, 7, 4, NOTHING), step(GET, 7, 5, 4), step(GET, 7, 5, 4));
        });
        CHECK.sentence("delete: likewise, and it has none then.", () -> {
            only("none", MAP, step(DELETE, 0, 5, NOTHING));
            only("a value", MAP, step(PUT, 3, 4, NOTHING), step(DELETE, 3, 5, 4));
            only("twice", MAP, step(PUT, 3, 4, NOTHING), step(DELETE, 3, 5, 4), step(DELETE, 3, 5, NOTHING));
            only("got behind it", MAP, step(PUT, 3, 4, NOTHING), step(DELETE, 3, 5, 4), step(GET, 3, 0, NOTHING));
            only("put behind it", MAP, step(PUT, 3, 4, NOTHING), step(DELETE, 3, 5, 4), step(PUT, 3, 6, NOTHING));
            only("of another key", MAP, step(PUT, 3, 4, NOTHING), step(DELETE, 2, 5, NOTHING), step(GET, 3, 0, 4));
        });
        CHECK.sentence("(Of other numbers a the lowest three bits are the key;", TermsBoundaryTest::mapOtherNumbers);
        CHECK.sentence("to have the value NOTHING is to have none.)", TermsBoundaryTest::mapNothing);
    }

    private static void mapKeys() {
        for (int key = 0; key < 8; key++) {
            only("get " + key, MAP, step(GET, key, 0, NOTHING));
        }
        int[][] steps = new int[16][];
        for (int key = 0; key < 8; key++) {
            steps[key] = step(PUT, key, 70 - key, NOTHING);
            steps[15 - key] = step(GET, key, 0, 70 - key);
        }
        only("all eight at once", MAP, steps);
    }

    private static void mapOtherNumbers() {
        int[][] same = {{8, 0}, {-8, 0}, {LEAST, 0}, {16, 0}, {9, 1}, {12, 4}, {-1, 7}, {15, 7}, {MOST, 7}, {-7, 1}};
        for (int[] pair : same) {
            only(pair[0] + " put", MAP, step(PUT, pair[0], 4, NOTHING), step(GET, pair[1], 0, 4));
            only(pair[0] + " got", MAP, step(PUT, pair[1], 4, NOTHING), step(GET, pair[0], 0, 4));
            only(pair[0] + " deleted", MAP,
                step(PUT, pair[1], 4, NOTHING), step(DELETE, pair[0], 0, 4), step(GET, pair[1], 0, NOTHING));
            only(pair[0] + " is not the next key", MAP,
                step(PUT, pair[0], 4, NOTHING), step(GET, pair[1] + 1, 0, NOTHING));
        }
    }

    private static void mapNothing() {
        only("got", MAP, step(PUT, 3, NOTHING, NOTHING), step(GET, 3, 0, NOTHING));
        only("it takes the value away", MAP, step(PUT, 3, 4, NOTHING), step(PUT, 3, NOTHING, 4), step(GET, 3, 0, NOTHING));
        only("put behind it", MAP, step(PUT, 3, NOTHING, NOTHING), step(PUT, 3, 4, NOTHING));
        LinearHistories x = with(MAP);
        lost(x, 0, 0, PUT, 3, NOTHING);
        CHECK.due("it is the state at first: lasts", x.lasts(0), 1);
        lost(x, 0, 0, DELETE, 3, 0);
        lost(x, 0, 0, PUT, 2, NOTHING);
        CHECK.due("and as a delete: possibilities", x.possibilities(0), 8);
        CHECK.due("and as a delete: lasts", x.lasts(0), 1);
    }

    private static void events() {
        CHECK.sentence("a process CALLS an operation, which then is OPEN;", TermsBoundaryTest::open);
        CHECK.sentence("it COMES BACK with a result, or it is LOST: then it stays open for ever,"
            + " and the process can call again.", TermsBoundaryTest::lostForEver);
        CHECK.sentence("An operation is BEFORE another one if it came back at an event before the other one's call.",
            TermsBoundaryTest::before);
        CHECK.sentence("Operations have numbers, from 0 on, in the order of their calls.",
            TermsBoundaryTest::operationNumbers);
    }

    private static void open() {
        LinearHistories x = with(REGISTER);
        x.call(0, 0, WRITE, 5, 0);
        CHECK.due("done or not", x.possibilities(0), 2);
        CHECK.due("0 or 5", x.lasts(0), 2);
        sequential(x, 1, 0, READ, 0, 0, 0);
        CHECK.due("not yet", x.judge(0), 1);
        sequential(x, 1, 0, READ, 0, 0, 5);
        CHECK.due("by now", x.judge(0), 1);
        CHECK.due("it needs no result of its own", x.lasts(0), 1);
    }

    private static void lostForEver() {
        LinearHistories x = with(REGISTER, QUEUE);
        CHECK.due("the lost one", x.call(0, 0, WRITE, 5, 0), 0);
        x.lose(0);
        CHECK.dueThrow("it does not come back", STATE, () -> back(x, 0, 0));
        for (int i = 0; i < 16; i++) {
            CHECK.due("the process calls again", x.call(0, 1, SIZE, 0, 0), 1 + i);
            x.back(0, 0);
        }
        for (int i = 0; i < 13; i++) {
            sequential(x, 0, 0, READ, 0, 0, 0);
        }
        CHECK.due("not done for long", x.judge(0), 1);
        sequential(x, 0, 0, READ, 0, 0, 5);
        CHECK.due("and done at last", x.judge(0), 1);
        sequential(x, 0, 0, READ, 0, 0, 0);
        CHECK.due("once", x.judge(0), 0);
        LinearHistories y = with(REGISTER);
        sequential(y, 0, 0, WRITE, 4, 0, 0);
        lost(y, 1, 0, WRITE, 5, 0);
        sequential(y, 0, 0, READ, 0, 0, 5);
        sequential(y, 0, 0, WRITE, 6, 0, 0);
        sequential(y, 0, 0, READ, 0, 0, 5);
        CHECK.due("twice", y.judge(0), 0);
    }

    private static int judgeOfTwo(boolean overlap) {
        LinearHistories x = with(REGISTER, REGISTER);
        x.call(0, 0, WRITE, 5, 0);
        if (overlap) {
            x.call(1, 0, READ, 0, 0);
            x.back(0, 0);
        } else {
            x.back(0, 0);
            x.call(1, 0, READ, 0, 0);
        }
        x.back(1, 0);
        return x.judge(0);
    }

    private static void before() {
        CHECK.due("called at the event behind the coming back", judgeOfTwo(false), 0);
        CHECK.due("called at the event in front of it", judgeOfTwo(true), 1);
        LinearHistories x = with(REGISTER);
        x.call(0, 0, READ, 0, 0);
        x.call(1, 0, WRITE, 5, 0);
        x.back(0, 5);
        CHECK.due("a later call can be done earlier", x.judge(0), 1);
        LinearHistories y = with(REGISTER);
        x.clear();
        y.call(0, 0, READ, 0, 0);
        y.back(0, 5);
        y.call(1, 0, WRITE, 5, 0);
        CHECK.due("but not when the other one came back", y.judge(0), 0);
        LinearHistories z = with(REGISTER, QUEUE);
        sequential(z, 0, 0, WRITE, 5, 0, 0);
        for (int i = 0; i < 16; i++) {
            sequential(z, 0, 1, SIZE, 0, 0, 0);
        }
        sequential(z, 0, 0, READ, 0, 0, 0);
        CHECK.due("long before", z.judge(0), 0);
        LinearHistories u = with(REGISTER);
        u.call(0, 0, WRITE, 5, 0);
        u.call(1, 0, READ, 0, 0);
        u.lose(0);
        u.back(1, 0);
        lost(u, 0, 0, WRITE, 6, 0);
        CHECK.due("lost ones are before none: 1, 1 0, 1 2, 1 0 2, 1 2 0", u.ways(0), 5);
    }

    private static void operationNumbers() {
        LinearHistories x = with(REGISTER, QUEUE);
        CHECK.due("of the second object", x.call(7, 1, PUT, 4, 0), 0);
        CHECK.due("of the first one", x.call(6, 0, READ, 0, 0), 1);
        x.back(6, 0);
        CHECK.due("behind a coming back", x.call(5, 1, PUT, 4, 0), 2);
        x.lose(7);
        CHECK.due("behind a loss", x.call(7, 0, READ, 0, 0), 3);
        CHECK.dueThrow("refused", STATE, () -> x.call(7, 0, READ, 0, 0));
        CHECK.due("behind a refusal", x.call(0, 0, READ, 0, 0), 4);
    }

    private static void possibilities() {
        CHECK.sentence("A STATE of an object is what it has, so that all its operations tell the same then.",
            TermsBoundaryTest::states);
        CHECK.sentence("none and the state at first;", TermsBoundaryTest::firstPossibility);
        CHECK.sentence("with x, and the state behind it, if x is open, or came back with the result"
            + " that it has in the state;", TermsBoundaryTest::results);
        CHECK.sentence("and if all operations of the object BEFORE x are done there.",
            TermsBoundaryTest::allBeforeDone);
        CHECK.sentence("An END is a possibility in which all operations of the object that came back are done.",
            TermsBoundaryTest::ends);
        CHECK.sentence("The object is LINEAR if it has an end; MANY if it has more than 2000 possibilities.",
            TermsBoundaryTest::many);
        CHECK.sentence("A WAY of it is a row of operations, each step of which goes from one possibility to the"
            + " next as above, from the first one to an end.", TermsBoundaryTest::ways);
        CHECK.sentence("The history is linear if all objects are.", TermsBoundaryTest::linearHistory);
    }

    /** Two lost ones: four sets of them, and of the whole set perhaps two states. */
    private static int statesOfTwo(int kind, int[] one, int[] other) {
        LinearHistories x = with(kind);
        lost(x, 0, 0, one[0], one[1], one[2]);
        lost(x, 0, 0, other[0], other[1], other[2]);
        return x.possibilities(0) - 3;
    }

    private static void states() {
        CHECK.due("other values", statesOfTwo(REGISTER, step(WRITE, 4, 0, 0), step(WRITE, 5, 0, 0)), 2);
        CHECK.due("equal values", statesOfTwo(REGISTER, step(WRITE, 4, 1, 0), step(SWAP, 4, 2, 0)), 1);
        CHECK.due("other queues", statesOfTwo(QUEUE, step(PUT, 4, 0, 0), step(PUT, 5, 0, 0)), 2);
        CHECK.due("equal queues", statesOfTwo(QUEUE, step(PUT, 4, 1, 0), step(PUT, 4, 2, 0)), 1);
        CHECK.due("a queue emptied", statesOfTwo(QUEUE, step(PUT, 4, 0, 0), step(TAKE, 0, 0, 0)), 2);
        CHECK.due("a queue asked", statesOfTwo(QUEUE, step(PUT, 4, 0, 0), step(SIZE, 0, 0, 0)), 1);
        CHECK.due("other stacks", statesOfTwo(STACK, step(PUT, 4, 0, 0), step(PUT, 5, 0, 0)), 2);
        CHECK.due("equal stacks", statesOfTwo(STACK, step(PUT, 4, 1, 0), step(PUT, 4, 2, 0)), 1);
        CHECK.due("sets in any order", statesOfTwo(SET, step(INSERT, 4, 0, 0), step(INSERT, 5, 0, 0)), 1);
        CHECK.due("a set twice", statesOfTwo(SET, step(INSERT, 4, 0, 0), step(INSERT, 4, 0, 0)), 1);
        CHECK.due("a set and a removal", statesOfTwo(SET, step(INSERT, 4, 0, 0), step(REMOVE, 4, 0, 0)), 2);
        CHECK.due("heaps in any order", statesOfTwo(HEAP, step(PUT, 4, 0, 0), step(PUT, 5, 0, 0)), 1);
        CHECK.due("heaps, the other way round", statesOfTwo(HEAP, step(PUT, 5, 0, 0), step(PUT, 4, 0, 0)), 1);
        CHECK.due("other keys", statesOfTwo(MAP, step(PUT, 4, 1, 0), step(PUT, 5, 2, 0)), 1);
        CHECK.due("one key", statesOfTwo(MAP, step(PUT, 4, 1, 0), step(PUT, 12, 2, 0)), 2);
        CHECK.due("one key, one value", statesOfTwo(MAP, step(PUT, 4, 1, 0), step(PUT, 12, 1, 0)), 1);
        CHECK.due("no value", statesOfTwo(MAP, step(PUT, 4, NOTHING, 0), step(DELETE, 12, 1, 0)), 1);
        CHECK.due("0 is a value", statesOfTwo(MAP, step(PUT, 4, 0, 0), step(DELETE, 12, 1, 0)), 2);
        LinearHistories x = with(QUEUE);
        lost(x, 0, 0, PUT, NOTHING, 0);
        CHECK.due("to have NOTHING once is not to be empty", x.lasts(0), 2);
        LinearHistories y = with(SET);
        lost(y, 0, 0, HAS, 4, 0);
        lost(y, 0, 0, INSERT, 4, 0);
        lost(y, 0, 0, INSERT, 4, 9);
        CHECK.due("a number is one whichever operation brings it", y.lasts(0), 2);
    }

    private static void firstPossibility() {
        for (int kind = 0; kind < 6; kind++) {
            LinearHistories x = with(kind);
            CHECK.due("without operations", x.possibilities(0), 1);
            sequential(x, 0, 0, 0, 0, 0, 77);
            CHECK.due("when no operation can be done", x.possibilities(0), 1);
            lost(x, 0, 0, 0, 0, 0);
            CHECK.due("nor any behind it", x.possibilities(0), 1);
        }
    }

    private static void results() {
        int[] wrongs = {MOST, LEAST, NONE, MANY, 1, -1};
        for (int wrong : wrongs) {
            LinearHistories x = with(REGISTER);
            x.call(0, 0, READ, 0, 0);
            CHECK.due("open", x.possibilities(0), 2);
            x.back(0, wrong);
            CHECK.due("with " + wrong, x.possibilities(0), 1);
        }
        LinearHistories y = with(REGISTER);
        y.call(0, 0, ADD, 1, 0);
        y.call(1, 0, ADD, 1, 0);
        y.call(2, 0, ADD, 1, 0);
        y.back(1, 2);
        CHECK.due("only in the state where it has it", y.possibilities(0), 4 + 1);
        CHECK.due("so that the others are done", y.lasts(0), 1);
    }

    private static void allBeforeDone() {
        LinearHistories x = with(REGISTER, REGISTER);
        for (int i = 0; i < 16; i++) {
            sequential(x, i % 8, 0, READ, 0, 0, 0);
            CHECK.due("one after the other", x.possibilities(0), i + 2);
        }
        sequential(x, 0, 1, READ, 0, 0, 9);
        for (int i = 0; i < 15; i++) {
            lost(x, i % 8, 1, WRITE, 9, 0);
            CHECK.due("nothing behind one that cannot be", x.possibilities(1), 1);
        }
        LinearHistories y = with(REGISTER, REGISTER);
        sequential(y, 0, 0, READ, 0, 0, 9);
        sequential(y, 0, 1, READ, 0, 0, 0);
        CHECK.due("of another object none must be", y.possibilities(1), 2);
        CHECK.due("of another object none must be: judge", y.judge(1), 1);
    }

    private static void ends() {
        LinearHistories x = with(REGISTER);
        CHECK.due("without operations", x.judge(0), 1);
        for (int i = 1; i <= 4; i++) {
            lost(x, 0, 0, WRITE, i, 0);
            CHECK.due("when none came back, the first one is an end, and so are all", x.lasts(0), i + 1);
        }
        sequential(x, 0, 0, WRITE, 7, 0, 0);
        CHECK.due("one came back, and any others behind it", x.lasts(0), 5);
        LinearHistories y = with(REGISTER);
        sequential(y, 0, 0, READ, 0, 0, 0);
        sequential(y, 0, 0, READ, 0, 0, 1);
        CHECK.due("all but one is no end", y.lasts(0), 0);
        CHECK.due("all but one is no end: judge", y.judge(0), 0);
    }

    private static void many() {
        LinearHistories x = LimitHistories.of2000();
        CHECK.due("2000", x.possibilities(0), 2000);
        CHECK.due("2000: linear", x.judge(0), 1);
        LinearHistories y = LimitHistories.of2001();
        CHECK.due("2001", y.possibilities(0), MANY);
        CHECK.due("2001: judge", y.judge(0), MANY);
        CHECK.due("2001: history", y.linear(), MANY);
        LinearHistories z = with(REGISTER);
        for (int i = 0; i < 16; i++) {
            lost(z, 0, 0, READ, 0, 0);
        }
        CHECK.due("65536", z.possibilities(0), MANY);
        LinearHistories u = with(STACK);
        for (int i = 0; i < 16; i++) {
            lost(u, 0, 0, PUT, i, 0);
        }
        CHECK.due("more than an int holds", u.possibilities(0), MANY);
        CHECK.due("more than an int holds: history", u.linear(), MANY);
    }

    private static void ways() {
        LinearHistories x = with(REGISTER, REGISTER);
        CHECK.due("a row of none", x.ways(0), 1);
        x.call(0, 0, READ, 0, 0);
        CHECK.due("from one end to another", x.ways(0), 2);
        x.back(0, 0);
        CHECK.due("not less than an end", x.ways(0), 1);
        lost(x, 0, 0, WRITE, 1, 0);
        lost(x, 0, 0, WRITE, 1, 0);
        CHECK.due("other rows of the same possibilities", x.ways(0), 1 + 2 + 2);
        sequential(x, 0, 1, READ, 0, 0, 1);
        CHECK.due("without an end none", x.ways(1), 0);
        LinearHistories y = with(REGISTER);
        y.call(0, 0, WRITE, 5, 0);
        y.call(1, 0, WRITE, 6, 0);
        sequential(y, 2, 0, READ, 0, 0, 5);
        CHECK.due("dead ones are no way: 0 2, 0 2 1, 1 0 2", y.ways(0), 3);
    }

    private static void linearHistory() {
        CHECK.due("no objects", new LinearHistories().linear(), 1);
        CHECK.due("six without operations", with(0, 1, 2, 3, 4, 5).linear(), 1);
        for (int wrong = 0; wrong < 6; wrong++) {
            LinearHistories x = with(0, 1, 2, 3, 4, 5);
            sequential(x, 0, wrong, 0, 0, 0, 77);
            CHECK.due("all but the object " + wrong, x.linear(), 0);
        }
    }

    private static void rows() {
        CHECK.sentence("of all rows of operations in which those of each object are a way of it",
            TermsBoundaryTest::rowOfWays);
        CHECK.sentence("and none stands in front of one that is before it", TermsBoundaryTest::rowKeepsBefore);
        CHECK.sentence("the first one in order (the lesser number at the first place where two differ;",
            TermsBoundaryTest::rowLesserFirst);
        CHECK.sentence("a row that begins another one comes first).", TermsBoundaryTest::rowBegins);
    }

    private static void rowOfWays() {
        dueRow("no objects", new LinearHistories(), new int[] {}, new int[] {});
        dueRow("no operations", with(0, 1, 2, 3, 4, 5), new int[] {}, new int[] {});
        LinearHistories x = with(REGISTER, REGISTER);
        x.call(0, 0, READ, 0, 0);
        x.call(1, 0, WRITE, 5, 0);
        x.call(2, 1, READ, 0, 0);
        x.call(3, 1, WRITE, 5, 0);
        x.back(0, 5);
        x.back(2, 5);
        dueRow("open ones where they are needed", x, new int[] {1, 0, 3, 2}, new int[] {0, 5, 0, 5});
        LinearHistories y = with(REGISTER);
        y.call(0, 0, WRITE, 4, 0);
        y.call(1, 0, READ, 0, 0);
        y.back(1, 0);
        dueRow("and not where they harm", y, new int[] {1}, new int[] {0});
        LinearHistories z = with(REGISTER);
        for (int i = 0; i < 13; i++) {
            sequential(z, 0, 0, READ, 0, 0, 0);
        }
        lost(z, 0, 0, WRITE, 5, 0);
        lost(z, 0, 0, WRITE, 6, 0);
        sequential(z, 0, 0, READ, 0, 0, 6);
        CHECK.same("nor among sixteen", row(z), "0 1 2 3 4 5 6 7 8 9 10 11 12 13 14 15");
        z.clear();
        z.object(REGISTER);
        lost(z, 0, 0, WRITE, 5, 0);
        lost(z, 0, 0, WRITE, 6, 0);
        for (int i = 0; i < 14; i++) {
            sequential(z, 0, 0, READ, 0, 0, 5);
        }
        CHECK.same("one that would take away what is read", row(z), "0 2 3 4 5 6 7 8 9 10 11 12 13 14 15");
    }

    private static void rowKeepsBefore() {
        LinearHistories x = with(QUEUE, REGISTER);
        x.call(0, 0, TAKE, 0, 0);
        x.call(1, 0, PUT, 6, 0);
        x.back(0, 6);
        x.call(2, 1, READ, 0, 0);
        x.back(2, 0);
        CHECK.same("of another object, called at the next event", row(x), "1 0 2");
        LinearHistories y = with(QUEUE, REGISTER);
        y.call(0, 0, TAKE, 0, 0);
        y.call(1, 1, READ, 0, 0);
        y.call(2, 0, PUT, 6, 0);
        y.back(0, 6);
        y.back(1, 0);
        CHECK.same("of another object, called before", row(y), "1 2 0");
        LinearHistories z = with(REGISTER, STACK);
        for (int i = 0; i < 32; i++) {
            boolean pushes = i % 2 == 1;
            sequential(z, i % 8, i % 2, pushes ? PUT : READ, i, 0, 0);
        }
        for (int i = 0; i < 32; i++) {
            CHECK.due("one after the other", z.row(i), i);
        }
    }

    private static void rowLesserFirst() {
        LinearHistories x = with(REGISTER, QUEUE);
        for (int process = 0; process < 8; process++) {
            x.call(process, process % 2, process % 2 == 0 ? READ : SIZE, 0, 0);
        }
        for (int process = 7; process >= 0; process--) {
            x.back(process, 0);
        }
        CHECK.same("in the order of the calls, not of the comings back", row(x), "0 1 2 3 4 5 6 7");
        LinearHistories y = with(REGISTER);
        lost(y, 0, 0, READ, 0, 0);
        lost(y, 0, 0, READ, 0, 0);
        sequential(y, 1, 0, READ, 0, 0, 0);
        CHECK.same("open ones of lesser numbers, though a shorter row would do", row(y), "0 1 2");
        LinearHistories z = with(REGISTER);
        z.call(0, 0, WRITE, 1, 0);
        z.call(1, 0, WRITE, 2, 0);
        z.call(2, 0, READ, 0, 0);
        z.back(2, 1);
        CHECK.same("what differs late", row(z), "0 2");
        z.back(0, 0);
        z.back(1, 0);
        CHECK.same("the last ones", row(z), "0 2 1");
    }

    private static void rowBegins() {
        LinearHistories x = with(REGISTER, REGISTER);
        sequential(x, 0, 0, READ, 0, 0, 0);
        lost(x, 0, 0, READ, 0, 0);
        lost(x, 0, 1, READ, 0, 0);
        CHECK.same("open ones behind the end stay away", row(x), "0");
        LinearHistories y = with(REGISTER);
        lost(y, 0, 0, READ, 0, 0);
        CHECK.due("the empty row begins all", y.length(), 0);
        LinearHistories z = with(REGISTER, REGISTER);
        lost(z, 0, 0, READ, 0, 0);
        sequential(z, 0, 1, READ, 0, 0, 0);
        lost(z, 0, 0, READ, 0, 0);
        CHECK.same("no longer than till all objects are at ends", row(z), "0 1");
    }

    private static void ownOrders() {
        CHECK.sentence("an operation of a process counts as before another one if that was called later"
            + " by the same process (open ones, too)", TermsBoundaryTest::ownOrder);
        CHECK.sentence("and no others do.", TermsBoundaryTest::noOthers);
    }

    private static void ownOrder() {
        LinearHistories x = with(REGISTER);
        sequential(x, 0, 0, WRITE, 5, 0, 0);
        sequential(x, 0, 0, READ, 0, 0, 0);
        CHECK.due("came back", x.judgeOwn(0), 0);
        LinearHistories y = with(REGISTER);
        lost(y, 0, 0, WRITE, 5, 0);
        sequential(y, 0, 0, READ, 0, 0, 0);
        CHECK.due("lost: linear", y.judge(0), 1);
        CHECK.due("lost: not in its own order", y.judgeOwn(0), 0);
        LinearHistories z = with(REGISTER);
        lost(z, 0, 0, WRITE, 5, 0);
        lost(z, 0, 0, WRITE, 6, 0);
        sequential(z, 0, 0, READ, 0, 0, 5);
        CHECK.due("two lost: linear", z.judge(0), 1);
        CHECK.due("two lost: not in its own order", z.judgeOwn(0), 0);
        LinearHistories u = with(REGISTER);
        lost(u, 0, 0, WRITE, 5, 0);
        sequential(u, 0, 0, READ, 0, 0, 5);
        u.call(0, 0, WRITE, 6, 0);
        CHECK.due("an open one behind them", u.judgeOwn(0), 1);
        sequential(u, 1, 0, READ, 0, 0, 6);
        CHECK.due("is seen", u.judgeOwn(0), 1);
        LinearHistories v = with(REGISTER, REGISTER);
        lost(v, 0, 0, WRITE, 5, 0);
        sequential(v, 0, 1, READ, 0, 0, 9);
        sequential(v, 0, 0, READ, 0, 0, 5);
        CHECK.due("another object's do not matter", v.judgeOwn(0), 1);
    }

    private static void noOthers() {
        LinearHistories x = with(REGISTER);
        sequential(x, 0, 0, WRITE, 5, 0, 0);
        sequential(x, 1, 0, READ, 0, 0, 0);
        CHECK.due("another process's came back long ago: not linear", x.judge(0), 0);
        CHECK.due("another process's came back long ago", x.judgeOwn(0), 1);
        LinearHistories y = with(REGISTER);
        sequential(y, 7, 0, READ, 0, 0, 5);
        sequential(y, 0, 0, WRITE, 5, 0, 0);
        CHECK.due("another process's was called later: not linear", y.judge(0), 0);
        CHECK.due("another process's was called later", y.judgeOwn(0), 1);
        LinearHistories z = with(REGISTER);
        sequential(z, 0, 0, READ, 0, 0, 5);
        sequential(z, 0, 0, WRITE, 5, 0, 0);
        CHECK.due("its own was called later", z.judgeOwn(0), 0);
    }

    private static void refusals() {
        CHECK.sentence("Methods throw what their comments name, the one named first when several would do",
            TermsBoundaryTest::firstNamed);
        CHECK.sentence("a call that throws, or answers NONE, changes nothing.",
            TermsBoundaryTest::refusedCallsChangeNothing);
    }

    private static void firstNamed() {
        LinearHistories x = with(REGISTER);
        x.call(0, 0, READ, 0, 0);
        CHECK.dueThrow("the process waits", STATE, () -> x.call(0, 0, READ, 0, 0));
        CHECK.dueThrow("it waits, and no such object", ARGUMENT, () -> x.call(0, 1, READ, 0, 0));
        CHECK.dueThrow("it waits, and no such operation", ARGUMENT, () -> x.call(0, 0, 5, 0, 0));
        CHECK.dueThrow("no such process, nothing is open", ARGUMENT, () -> back(x, 8, 0));
        CHECK.dueThrow("no such process, nothing to lose", ARGUMENT, () -> lose(x, -1));
        x.back(0, 1);
        CHECK.dueThrow("not linear, and no such place: row", STATE, () -> x.row(-1));
        CHECK.dueThrow("not linear, and no such place: result", STATE, () -> x.result(MOST));
    }

    /** A history that has all: objects, comings back, losses and open operations. */
    private static LinearHistories busy() {
        LinearHistories x = with(REGISTER, QUEUE);
        sequential(x, 0, 0, WRITE, 5, 0, 0);
        lost(x, 1, 1, PUT, 6, 0);
        x.call(2, 1, TAKE, 0, 0);
        x.call(3, 0, ADD, 2, 0);
        sequential(x, 4, 0, READ, 0, 0, 7);
        return x;
    }

    private static LinearHistories brokenOne() {
        LinearHistories x = busy();
        sequential(x, 4, 0, READ, 0, 0, 5);
        return x;
    }

    /** Six objects, the first of which has sixteen operations; 48 of them in all. */
    private static LinearHistories full() {
        LinearHistories x = with(REGISTER, QUEUE, STACK, SET, HEAP, MAP);
        for (int i = 0; i < 16; i++) {
            sequential(x, i % 8, 0, WRITE, i, 0, 0);
        }
        for (int i = 16; i < 47; i++) {
            sequential(x, i % 8, 1 + i % 5, 2, 0, 0, i % 5 == 4 ? NOTHING : 0);
        }
        x.call(7, 1, SIZE, 0, 0);
        return x;
    }

    private static void refusedCallsChangeNothing() {
        unchanged("object(6)", TermsBoundaryTest::busy,
            x -> CHECK.dueThrow("object(6)", ARGUMENT, () -> x.object(6)));
        unchanged("a seventh object", TermsBoundaryTest::full, x -> CHECK.due("object(0)", x.object(0), NONE));
        unchanged("call of no process", TermsBoundaryTest::busy,
            x -> CHECK.dueThrow("call", ARGUMENT, () -> x.call(8, 0, 1, 3, 3)));
        unchanged("call of no object", TermsBoundaryTest::busy,
            x -> CHECK.dueThrow("call", ARGUMENT, () -> x.call(5, 2, 1, 3, 3)));
        unchanged("call of no operation", TermsBoundaryTest::busy,
            x -> CHECK.dueThrow("call", ARGUMENT, () -> x.call(5, 1, 3, 3, 3)));
        unchanged("call of one that waits", TermsBoundaryTest::busy,
            x -> CHECK.dueThrow("call", STATE, () -> x.call(2, 0, 1, 3, 3)));
        unchanged("a 49th operation", TermsBoundaryTest::full,
            x -> CHECK.due("call", x.call(6, 1, 1, 3, 3), NONE));
        unchanged("a 17th of one object", TermsBoundaryTest::seventeen,
            x -> CHECK.due("call", x.call(6, 0, 1, 3, 3), NONE));
        unchanged("back of no process", TermsBoundaryTest::busy,
            x -> CHECK.dueThrow("back", ARGUMENT, () -> back(x, -1, 0)));
        unchanged("back of one that is lost", TermsBoundaryTest::busy,
            x -> CHECK.dueThrow("back", STATE, () -> back(x, 1, 0)));
        unchanged("lose of no process", TermsBoundaryTest::busy,
            x -> CHECK.dueThrow("lose", ARGUMENT, () -> lose(x, 8)));
        unchanged("lose of one that came back", TermsBoundaryTest::busy,
            x -> CHECK.dueThrow("lose", STATE, () -> lose(x, 0)));
        unchanged("questions of no object", TermsBoundaryTest::busy, TermsBoundaryTest::askOfNone);
        unchanged("places outside the row", TermsBoundaryTest::busy, x -> {
            CHECK.dueThrow("row", BOUNDS, () -> x.row(48));
            CHECK.dueThrow("result", BOUNDS, () -> x.result(-1));
        });
        unchanged("the row of what is not linear", TermsBoundaryTest::brokenOne, x -> {
            CHECK.dueThrow("length", STATE, x::length);
            CHECK.dueThrow("row", STATE, () -> x.row(0));
            CHECK.dueThrow("result", STATE, () -> x.result(0));
        });
    }

    private static LinearHistories seventeen() {
        LinearHistories x = with(REGISTER, QUEUE);
        for (int i = 0; i < 15; i++) {
            sequential(x, i % 8, 0, WRITE, i, 0, 0);
        }
        x.call(0, 0, WRITE, 3, 0);
        return x;
    }

    private static void askOfNone(LinearHistories x) {
        CHECK.dueThrow("possibilities", ARGUMENT, () -> x.possibilities(2));
        CHECK.dueThrow("judge", ARGUMENT, () -> x.judge(2));
        CHECK.dueThrow("judgeOwn", ARGUMENT, () -> x.judgeOwn(2));
        CHECK.dueThrow("ways", ARGUMENT, () -> x.ways(2));
        CHECK.dueThrow("lasts", ARGUMENT, () -> x.lasts(2));
        CHECK.dueThrow("broken", ARGUMENT, () -> x.broken(2));
    }

    /** 512 calls: four times 127 and a clear, so that what was used once is used again. */
    private static void wholeLife() {
        LinearHistories x = new LinearHistories();
        for (int life = 0; life < 4; life++) {
            for (int kind = 0; kind < 6; kind++) {
                CHECK.due("object", x.object((kind + life) % 6), kind);
            }
            int numbers = 0;
            for (int i = 0; i < 55; i++) {
                int process = i % 7;
                if (numbers < 48) {
                    CHECK.due("call", x.call(process, i % 6, 2, i, 0), numbers);
                    x.lose(process);
                    numbers++;
                } else {
                    CHECK.due("a call too many", x.call(process, i % 6, 2, i, 0), NONE);
                }
            }
            CHECK.due("events", x.events(), 96);
            CHECK.due("linear", x.linear(), 1);
            CHECK.due("length", x.length(), 0);
            for (int object = 0; object < 6; object++) {
                CHECK.due("judge", x.judge(object), 1);
                CHECK.due("broken", x.broken(object), NONE);
            }
            CHECK.due("clear", x.clear(), 96);
        }
    }
}
