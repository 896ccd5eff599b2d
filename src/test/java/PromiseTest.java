/** Each promise of the document, with ordinary inputs, its edges, and wrong inputs. */
public final class PromiseTest extends Histories {
    public static void main(String[] args) {
        newObject();
        objects();
        callNumbers();
        callWrong();
        callLimits();
        backs();
        losses();
        clears();
        eventCounts();
        registers();
        queues();
        stacks();
        sets();
        heaps();
        maps();
        possibilityCounts();
        possibilityEdge();
        judgements();
        ownJudgements();
        ownEdge();
        wayCounts();
        lastCounts();
        breaks();
        breakBehindMany();
        linears();
        rows();
        rowsOfSeveral();
        rowsChange();
        CHECK.end();
    }

    // Promise 1
    private static void newObject() {
        LinearHistories x = new LinearHistories();
        CHECK.due("1: events", x.events(), 0);
        CHECK.due("1: linear", x.linear(), 1);
        CHECK.due("1: length", x.length(), 0);
        CHECK.dueThrow("1: row", BOUNDS, () -> x.row(0));
        CHECK.dueThrow("1: judge", ARGUMENT, () -> x.judge(0));
        CHECK.dueThrow("1: call", ARGUMENT, () -> x.call(0, 0, 0, 0, 0));
        CHECK.dueThrow("1: back", STATE, () -> back(x, 0, 0));
        CHECK.due("1: clear", x.clear(), 0);
        CHECK.due("1: first object", x.object(0), 0);
    }

    // Promise 2
    private static void objects() {
        LinearHistories x = new LinearHistories();
        CHECK.dueThrow("2: kind -1", ARGUMENT, () -> x.object(-1));
        CHECK.dueThrow("2: kind 6", ARGUMENT, () -> x.object(6));
        for (int i = 0; i < 6; i++) {
            CHECK.due("2: object " + i, x.object(5 - i), i);
            CHECK.due("2: judge of a new one", x.judge(i), 1);
        }
        CHECK.due("2: a seventh", x.object(0), NONE);
        CHECK.dueThrow("2: a seventh of no kind", ARGUMENT, () -> x.object(6));
        CHECK.dueThrow("2: no seventh came", ARGUMENT, () -> x.judge(6));
        CHECK.due("2: the kinds stay", x.call(0, 5, 4, 0, 0), 0);
        CHECK.due("2: no events", x.events(), 1);
    }

    // Promise 3
    private static void callNumbers() {
        LinearHistories x = with(REGISTER, QUEUE);
        CHECK.due("3: first", x.call(7, 1, 0, 1, 0), 0);
        CHECK.due("3: second", x.call(0, 0, 4, 1, 0), 1);
        x.back(7, 0);
        CHECK.due("3: third", x.call(7, 1, 2, 1, 0), 2);
        x.lose(7);
        CHECK.due("3: fourth", x.call(7, 1, 1, 1, 0), 3);
    }

    private static void callWrong() {
        LinearHistories x = with(REGISTER, QUEUE, STACK, SET, HEAP, MAP);
        CHECK.dueThrow("3: process -1", ARGUMENT, () -> x.call(-1, 0, 0, 0, 0));
        CHECK.dueThrow("3: process 8", ARGUMENT, () -> x.call(8, 0, 0, 0, 0));
        CHECK.dueThrow("3: object -1", ARGUMENT, () -> x.call(0, -1, 0, 0, 0));
        CHECK.dueThrow("3: object 6", ARGUMENT, () -> x.call(0, 6, 0, 0, 0));
        CHECK.dueThrow("3: object 7", ARGUMENT, () -> x.call(0, Integer.MAX_VALUE, 0, 0, 0));
        CHECK.dueThrow("3: operation 5 of a register", ARGUMENT, () -> x.call(0, 0, 5, 0, 0));
        for (int i = 0; i < 6; i++) {
            int object = i;
            CHECK.dueThrow("3: operation -1", ARGUMENT, () -> x.call(0, object, -1, 0, 0));
            if (i > 0) {
                CHECK.dueThrow("3: operation 3", ARGUMENT, () -> x.call(0, object, 3, 0, 0));
            }
        }
        CHECK.due("3: nothing has changed", x.events(), 0);
        CHECK.due("3: operation 4 of a register", x.call(0, 0, 4, 0, 0), 0);
        CHECK.dueThrow("3: open", STATE, () -> x.call(0, 1, 0, 0, 0));
        CHECK.dueThrow("3: open, and no such operation", ARGUMENT, () -> x.call(0, 1, 3, 0, 0));
        CHECK.dueThrow("3: open, and no such object", ARGUMENT, () -> x.call(0, 9, 0, 0, 0));
        CHECK.due("3: only one event", x.events(), 1);
        CHECK.due("3: another process", x.call(1, 1, 0, 0, 0), 1);
    }

    private static void callLimits() {
        LinearHistories x = with(REGISTER, REGISTER, REGISTER, REGISTER);
        for (int i = 0; i < 16; i++) {
            CHECK.due("3: of the first object", x.call(0, 0, 0, 0, 0), i);
            x.lose(0);
        }
        CHECK.due("3: a seventeenth", x.call(0, 0, 0, 0, 0), NONE);
        CHECK.due("3: no event", x.events(), 32);
        CHECK.dueThrow("3: nothing is open", STATE, () -> lose(x, 0));
        for (int i = 16; i < 47; i++) {
            CHECK.due("3: of the others", x.call(0, i / 16, 0, 0, 0), i);
            x.back(0, 0);
        }
        CHECK.due("3: the last one", x.call(0, 3, 0, 0, 0), 47);
        CHECK.due("3: one too many", x.call(1, 3, 0, 0, 0), NONE);
        CHECK.dueThrow("3: open goes before too many", STATE, () -> x.call(0, 3, 0, 0, 0));
        CHECK.dueThrow("3: no such goes before too many", ARGUMENT, () -> x.call(1, 3, 5, 0, 0));
        CHECK.due("3: as many events", x.events(), 32 + 62 + 1);
        x.back(0, 0);
        CHECK.due("3: it came back", x.judge(3), 1);
        x.clear();
        x.object(REGISTER);
        CHECK.due("3: there is room again", x.call(0, 0, 0, 0, 0), 0);
    }

    // Promise 4
    private static void backs() {
        LinearHistories x = with(REGISTER);
        CHECK.dueThrow("4: process -1", ARGUMENT, () -> back(x, -1, 0));
        CHECK.dueThrow("4: process 8", ARGUMENT, () -> back(x, 8, 0));
        CHECK.dueThrow("4: none is open", STATE, () -> back(x, 0, 0));
        x.call(0, 0, 0, 0, 0);
        CHECK.dueThrow("4: another's is open", STATE, () -> back(x, 1, 0));
        CHECK.due("4: still open", x.judge(0), 1);
        x.back(0, 3);
        CHECK.due("4: with a wrong result", x.judge(0), 0);
        CHECK.dueThrow("4: twice", STATE, () -> back(x, 0, 0));
        x.call(1, 0, 0, 0, 0);
        x.lose(1);
        CHECK.dueThrow("4: it is lost", STATE, () -> back(x, 1, 0));
        CHECK.due("4: events", x.events(), 4);
    }

    // Promise 5
    private static void losses() {
        LinearHistories x = with(REGISTER);
        CHECK.dueThrow("5: process -1", ARGUMENT, () -> lose(x, -1));
        CHECK.dueThrow("5: process 8", ARGUMENT, () -> lose(x, 8));
        CHECK.dueThrow("5: none is open", STATE, () -> lose(x, 7));
        x.call(7, 0, 1, 5, 0);
        x.lose(7);
        CHECK.dueThrow("5: twice", STATE, () -> lose(x, 7));
        CHECK.due("5: the process can call again", x.call(7, 0, 0, 0, 0), 1);
        x.back(7, 0);
        CHECK.due("5: it need not have been done", x.judge(0), 1);
        sequential(x, 7, 0, 0, 0, 0, 5);
        CHECK.due("5: it can be done at any time", x.judge(0), 1);
        sequential(x, 7, 0, 0, 0, 0, 0);
        CHECK.due("5: but once", x.judge(0), 0);
        CHECK.due("5: events", x.events(), 8);
    }

    // Promise 6
    private static void clears() {
        LinearHistories x = with(REGISTER, QUEUE);
        sequential(x, 0, 0, 0, 0, 0, 5);
        lost(x, 1, 1, 0, 4, 0);
        x.call(2, 0, 1, 0, 0);
        CHECK.due("6: it is broken", x.broken(0), 2);
        CHECK.due("6: clear", x.clear(), 5);
        CHECK.due("6: no events", x.events(), 0);
        CHECK.dueThrow("6: no objects", ARGUMENT, () -> x.judge(0));
        CHECK.dueThrow("6: nothing is open", STATE, () -> back(x, 2, 0));
        CHECK.due("6: linear", x.linear(), 1);
        CHECK.due("6: length", x.length(), 0);
        CHECK.due("6: objects from 0 on", x.object(STACK), 0);
        CHECK.due("6: a new one is whole", x.broken(0), NONE);
        CHECK.due("6: a new one has one possibility", x.possibilities(0), 1);
        CHECK.due("6: operations from 0 on", x.call(2, 0, 0, 9, 0), 0);
        x.back(2, 0);
        sequential(x, 2, 0, 1, 0, 0, 9);
        CHECK.due("6: linear again", x.linear(), 1);
        CHECK.due("6: its row", x.length(), 2);
        CHECK.due("6: clear again", x.clear(), 4);
        CHECK.due("6: no row", x.length(), 0);
        CHECK.due("6: and again", x.clear(), 0);
        x.object(REGISTER);
        sequential(x, 0, 0, 0, 0, 0, 1);
        sequential(x, 0, 0, 1, 1, 0, 0);
        CHECK.due("6: broken at once", x.broken(0), 2);
        x.clear();
        x.object(REGISTER);
        sequential(x, 0, 0, 0, 0, 0, 1);
        sequential(x, 0, 0, 1, 1, 0, 0);
        CHECK.due("6: and once more", x.broken(0), 2);
    }

    // Promise 7
    private static void eventCounts() {
        LinearHistories x = with(REGISTER);
        CHECK.due("7: objects are none", x.events(), 0);
        x.call(0, 0, 0, 0, 0);
        CHECK.due("7: a call", x.events(), 1);
        CHECK.dueThrow("7: what throws", STATE, () -> x.call(0, 0, 0, 0, 0));
        CHECK.due("7: is none", x.events(), 1);
        x.back(0, 0);
        CHECK.due("7: a coming back", x.events(), 2);
        x.call(0, 0, 0, 0, 0);
        x.lose(0);
        CHECK.due("7: a loss", x.events(), 4);
        x.judge(0);
        x.linear();
        CHECK.due("7: questions are none", x.events(), 4);
    }

    /** Rows of operation, a, b and the result that is due, one after the other. */
    private static void story(String name, int kind, int[][] steps) {
        for (int wrong = -1; wrong < steps.length; wrong++) {
            LinearHistories x = with(kind);
            for (int i = 0; i < steps.length; i++) {
                int result = wrong == i ? steps[i][3] + 1 : steps[i][3];
                sequential(x, i % 8, 0, steps[i][0], steps[i][1], steps[i][2], result);
            }
            CHECK.due(name + " wrong at " + wrong, x.judge(0), wrong < 0 ? 1 : 0);
            CHECK.due(name + " broken", x.broken(0), wrong < 0 ? NONE : 2 * wrong + 2);
            CHECK.due(name + " possibilities", x.possibilities(0), 1 + (wrong < 0 ? steps.length : wrong));
            CHECK.due(name + " ways", x.ways(0), wrong < 0 ? 1 : 0);
            CHECK.due(name + " lasts", x.lasts(0), wrong < 0 ? 1 : 0);
        }
    }

    // The kinds of the terms
    private static void registers() {
        int most = Integer.MAX_VALUE;
        story("register", REGISTER, new int[][] {
            {0, 9, 9, 0}, {1, 7, 9, 0}, {0, 0, 0, 7}, {2, -3, 0, 7}, {0, 0, 0, -3}, {3, 7, 8, 0}, {0, 0, 0, -3},
            {3, -3, most, 1}, {4, 2, 0, most}, {0, 0, 0, Integer.MIN_VALUE + 1}, {4, -1, 0, Integer.MIN_VALUE + 1},
            {2, 5, 0, Integer.MIN_VALUE}, {3, 5, 5, 1}, {0, 0, 0, 5}});
    }

    private static void queues() {
        story("queue", QUEUE, new int[][] {
            {1, 0, 0, NOTHING}, {2, 0, 0, 0}, {0, 4, 0, 0}, {0, 4, 0, 0}, {0, NOTHING, 0, 0}, {0, 6, 0, 0}, {2, 0, 0, 4},
            {1, 0, 0, 4}, {1, 9, 0, 4}, {1, 0, 0, NOTHING}, {2, 0, 0, 1}, {0, 2, 0, 0}, {1, 0, 0, 6}, {1, 0, 0, 2},
            {1, 0, 0, NOTHING}});
        int[][] full = new int[16][];
        for (int i = 0; i < 16; i++) {
            full[i] = i < 8 ? new int[] {0, 100 - i, 0, 0} : new int[] {1, 0, 0, 108 - i};
        }
        story("queue, half puts", QUEUE, full);
        story("queue, all puts", QUEUE, puts());
    }

    private static int[][] puts() {
        int[][] steps = new int[16][];
        for (int i = 0; i < 16; i++) {
            steps[i] = new int[] {0, 50 - i * i, 0, 0};
        }
        return steps;
    }

    private static void stacks() {
        story("stack", STACK, new int[][] {
            {1, 0, 0, NOTHING}, {2, 0, 0, 0}, {0, 4, 0, 0}, {0, NOTHING, 0, 0}, {0, 6, 0, 0}, {2, 0, 0, 3}, {1, 0, 0, 6},
            {0, 8, 0, 0}, {1, 0, 0, 8}, {1, 0, 0, NOTHING}, {1, 0, 0, 4}, {1, 0, 0, NOTHING}, {2, 0, 0, 0}});
        story("stack, all pushes", STACK, puts());
    }

    private static void sets() {
        story("set", SET, new int[][] {
            {2, 3, 0, 0}, {1, 3, 0, 0}, {0, 3, 0, 1}, {0, 3, 9, 0}, {2, 3, 0, 1}, {2, 4, 0, 0}, {0, NOTHING, 0, 1},
            {2, NOTHING, 0, 1}, {1, 3, 0, 1}, {1, 3, 0, 0}, {2, 3, 0, 0}, {0, 3, 0, 1}, {0, -1, 0, 1}, {2, 3, 0, 1}});
    }

    private static void heaps() {
        story("heap", HEAP, new int[][] {
            {1, 0, 0, NOTHING}, {2, 0, 0, 0}, {0, 7, 0, 0}, {0, -7, 0, 0}, {0, 7, 0, 0}, {0, Integer.MAX_VALUE, 0, 0},
            {0, NOTHING, 0, 0}, {2, 0, 0, 5}, {1, 0, 0, NOTHING}, {1, 0, 0, -7}, {1, 0, 0, 7}, {1, 0, 0, 7}, {2, 0, 0, 1},
            {0, 3, 0, 0}, {1, 0, 0, 3}, {1, 0, 0, Integer.MAX_VALUE}});
        story("heap, all puts", HEAP, puts());
    }

    private static void maps() {
        story("map", MAP, new int[][] {
            {1, 0, 0, NOTHING}, {2, 7, 0, NOTHING}, {0, 0, 5, NOTHING}, {0, 7, 6, NOTHING}, {1, 0, 0, 5}, {1, 7, 0, 6},
            {0, 8, 9, 5}, {1, -8, 0, 9}, {1, -1, 0, 6}, {2, 15, 0, 6}, {1, 7, 0, NOTHING}, {0, 0, NOTHING, 9},
            {1, 0, 0, NOTHING}, {0, 0, 0, NOTHING}, {1, 16, 0, 0}, {2, Integer.MIN_VALUE, 0, 0}});
    }

    // Promise 8
    private static void possibilityCounts() {
        LinearHistories x = with(QUEUE);
        CHECK.due("8: none done", x.possibilities(0), 1);
        x.call(0, 0, 0, 1, 0);
        CHECK.due("8: an open one", x.possibilities(0), 2);
        x.call(1, 0, 0, 2, 0);
        CHECK.due("8: two open ones", x.possibilities(0), 5);
        x.call(2, 0, 0, 2, 0);
        CHECK.due("8: equal numbers, equal states", x.possibilities(0), 1 + 3 + 5 + 3);
        x.back(0, 1);
        CHECK.due("8: dead ones count", x.possibilities(0), 1 + 2 + 1);
        CHECK.due("8: as they are dead", x.judge(0), 0);
        CHECK.dueThrow("8: object -1", ARGUMENT, () -> x.possibilities(-1));
        CHECK.dueThrow("8: object 1", ARGUMENT, () -> x.possibilities(1));
    }

    private static void possibilityEdge() {
        LinearHistories x = LimitHistories.of2000();
        CHECK.due("8: 2000 possibilities", x.possibilities(0), 2000);
        CHECK.due("9: 2000 possibilities", x.judge(0), 1);
        CHECK.due("12: 2000 possibilities", x.lasts(0), 1);
        CHECK.due("13: 2000 possibilities", x.broken(0), NONE);
        CHECK.due("14: 2000 possibilities", x.linear(), 1);
        CHECK.due("15: 2000 possibilities", x.length(), 14);
        CHECK.isTrue("11: 2000 possibilities", x.ways(0) > 0);
        LinearHistories y = LimitHistories.of2001();
        CHECK.due("8: 2001 possibilities", y.possibilities(0), MANY);
        CHECK.due("9: 2001 possibilities", y.judge(0), MANY);
        CHECK.due("10: but few in its own order", y.judgeOwn(0), 1);
        CHECK.due("11: 2001 possibilities", y.ways(0), MANY);
        CHECK.due("12: 2001 possibilities", y.lasts(0), MANY);
        CHECK.due("13: 2001 possibilities", y.broken(0), NONE);
        CHECK.due("14: 2001 possibilities", y.linear(), MANY);
        CHECK.dueThrow("15: 2001 possibilities", STATE, y::length);
        CHECK.dueThrow("16: 2001 possibilities", STATE, () -> y.row(0));
        CHECK.dueThrow("17: 2001 possibilities", STATE, () -> y.result(-1));
    }

    // Promise 9
    private static void judgements() {
        LinearHistories x = with(REGISTER, REGISTER);
        x.call(0, 0, 1, 5, 0);
        x.call(1, 0, 0, 0, 0);
        x.back(1, 5);
        CHECK.due("9: an open write is seen", x.judge(0), 1);
        x.call(1, 0, 0, 0, 0);
        x.back(1, 0);
        CHECK.due("9: then not any more", x.judge(0), 0);
        CHECK.due("9: the other one", x.judge(1), 1);
        x.call(2, 1, 1, 4, 0);
        x.back(2, 0);
        x.call(3, 1, 0, 0, 0);
        x.back(3, 0);
        CHECK.due("9: what came back is before what was called later", x.judge(1), 0);
        CHECK.dueThrow("9: object -1", ARGUMENT, () -> x.judge(-1));
        CHECK.dueThrow("9: object 2", ARGUMENT, () -> x.judge(2));
    }

    // Promise 10
    private static void ownJudgements() {
        LinearHistories x = with(REGISTER, QUEUE);
        sequential(x, 0, 0, 1, 4, 0, 0);
        sequential(x, 1, 0, 0, 0, 0, 0);
        CHECK.due("10: not linear", x.judge(0), 0);
        CHECK.due("10: but other processes' order is free", x.judgeOwn(0), 1);
        sequential(x, 1, 0, 0, 0, 0, 4);
        CHECK.due("10: still", x.judgeOwn(0), 1);
        sequential(x, 1, 0, 0, 0, 0, 0);
        CHECK.due("10: its own is not", x.judgeOwn(0), 0);
        lost(x, 3, 1, 0, 7, 0);
        sequential(x, 3, 1, 2, 0, 0, 0);
        CHECK.due("10: a lost one need not be done", x.judge(1), 1);
        CHECK.due("10: but in its own order", x.judgeOwn(1), 0);
        x.clear();
        x.object(QUEUE);
        x.call(0, 0, 1, 0, 0);
        sequential(x, 1, 0, 0, 7, 0, 0);
        x.back(0, 7);
        sequential(x, 2, 0, 1, 0, 0, NOTHING);
        CHECK.due("10: linear is fine", x.judgeOwn(0), 1);
        CHECK.dueThrow("10: object -1", ARGUMENT, () -> x.judgeOwn(-1));
        CHECK.dueThrow("10: object 1", ARGUMENT, () -> x.judgeOwn(1));
    }

    private static void ownEdge() {
        LinearHistories x = LimitHistories.own2000();
        x.object(REGISTER);
        CHECK.due("10: 5 * 5 * 5 * 2 * 2 * 2 * 2 possibilities", x.judgeOwn(0), 1);
        for (int i = 0; i < 16; i++) {
            sequential(x, i % 8, 1, 0, 0, 0, 0);
        }
        CHECK.due("10: many in its own order", x.judgeOwn(1), MANY);
        CHECK.due("10: and few otherwise", x.judge(1), 1);
    }

    // Promise 11
    private static void wayCounts() {
        LinearHistories x = with(REGISTER, REGISTER, REGISTER);
        CHECK.due("11: the empty one", x.ways(0), 1);
        for (int process = 0; process < 5; process++) {
            x.call(process, 0, 0, 0, 0);
        }
        CHECK.due("11: any of five open ones", x.ways(0), 1 + 5 + 20 + 60 + 120 + 120);
        for (int process = 0; process < 5; process++) {
            x.back(process, 0);
        }
        CHECK.due("11: all of five", x.ways(0), 120);
        lost(x, 0, 1, 0, 0, 0);
        for (int round = 8; round >= 7; round--) {
            for (int process = 0; process < round; process++) {
                x.call(process, 1, 0, 0, 0);
            }
            for (int process = 0; process < round; process++) {
                x.back(process, 0);
            }
        }
        CHECK.due("11: more than an int holds", x.ways(1), 17L * 40320 * 5040);
        sequential(x, 0, 2, 0, 0, 0, 1);
        CHECK.due("11: none", x.ways(2), 0);
        CHECK.dueThrow("11: object -1", ARGUMENT, () -> x.ways(-1));
        CHECK.dueThrow("11: object 3", ARGUMENT, () -> x.ways(3));
    }

    private static int lastsOfTwo(int kind, int code, int a, int b, int c, int d, int result) {
        LinearHistories x = with(kind);
        x.call(0, 0, code, a, b);
        x.call(1, 0, code, c, d);
        x.back(0, result);
        x.back(1, result);
        return x.lasts(0);
    }

    // Promise 12
    private static void lastCounts() {
        CHECK.due("12: writes", lastsOfTwo(REGISTER, 1, 4, 0, 5, 0, 0), 2);
        CHECK.due("12: equal writes", lastsOfTwo(REGISTER, 1, 4, 0, 4, 1, 0), 1);
        CHECK.due("12: queue", lastsOfTwo(QUEUE, 0, 4, 0, 5, 0, 0), 2);
        CHECK.due("12: queue of equals", lastsOfTwo(QUEUE, 0, 4, 0, 4, 1, 0), 1);
        CHECK.due("12: stack", lastsOfTwo(STACK, 0, 4, 0, 5, 0, 0), 2);
        CHECK.due("12: set", lastsOfTwo(SET, 0, 4, 0, 5, 0, 1), 1);
        CHECK.due("12: set, never", lastsOfTwo(SET, 0, 4, 0, 4, 0, 1), 0);
        CHECK.due("12: heap", lastsOfTwo(HEAP, 0, 4, 0, 5, 0, 0), 1);
        CHECK.due("12: map", lastsOfTwo(MAP, 0, 4, 1, 5, 0, NOTHING), 1);
        CHECK.due("12: map, no value", lastsOfTwo(MAP, 0, 4, NOTHING, 12, 5, NOTHING), 1);
        LinearHistories x = with(MAP, REGISTER);
        CHECK.due("12: a new one", x.lasts(0), 1);
        x.call(0, 0, 0, 3, NOTHING);
        CHECK.due("12: a value NOTHING is none", x.lasts(0), 1);
        x.call(1, 1, 4, 2, 0);
        x.call(2, 1, 4, 3, 0);
        x.call(3, 1, 4, 5, 0);
        CHECK.due("12: 0, 2, 3, 5, 7, 8, 10", x.lasts(1), 7);
        x.back(3, 0);
        CHECK.due("12: 5, 7, 8, 10", x.lasts(1), 4);
        LinearHistories y = with(REGISTER);
        y.call(0, 0, 4, Integer.MAX_VALUE, 0);
        y.call(1, 0, 4, 1, 0);
        y.call(2, 0, 4, -1, 0);
        CHECK.due("12: sums that wrap are the same", y.lasts(0), 6);
        CHECK.due("8: sums that wrap are the same", y.possibilities(0), 8);
        CHECK.dueThrow("12: object -1", ARGUMENT, () -> x.lasts(-1));
        CHECK.dueThrow("12: object 2", ARGUMENT, () -> x.lasts(2));
    }

    // Promise 13
    private static void breaks() {
        LinearHistories x = with(REGISTER, STACK);
        CHECK.due("13: a new one", x.broken(0), NONE);
        lost(x, 0, 1, 0, 5, 0);
        x.call(1, 0, 0, 0, 0);
        x.call(2, 0, 1, 6, 0);
        x.back(1, 6);
        CHECK.due("13: not yet", x.broken(0), NONE);
        x.call(1, 0, 0, 0, 0);
        x.call(3, 1, 1, 0, 0);
        x.back(1, 0);
        CHECK.due("13: at the coming back, not at the call", x.broken(0), 8);
        x.back(3, 5);
        x.back(2, 0);
        CHECK.due("13: it stays the first", x.broken(0), 8);
        CHECK.due("13: the other one is whole", x.broken(1), NONE);
        sequential(x, 4, 1, 1, 0, 0, 5);
        CHECK.due("13: and now", x.broken(1), 12);
        CHECK.due("13: the first one still", x.broken(0), 8);
        CHECK.dueThrow("13: object -1", ARGUMENT, () -> x.broken(-1));
        CHECK.dueThrow("13: object 2", ARGUMENT, () -> x.broken(2));
    }

    private static void breakBehindMany() {
        LinearHistories x = with(QUEUE);
        for (int process = 0; process < 7; process++) {
            x.call(process, 0, 0, process, 0);
        }
        CHECK.due("13: many", x.judge(0), MANY);
        CHECK.due("13: not while many", x.broken(0), NONE);
        x.back(6, 1);
        CHECK.due("13: few again", x.possibilities(0), 1957);
        CHECK.due("13: and none is an end", x.judge(0), 0);
        CHECK.due("13: behind many", x.broken(0), 8);
        LinearHistories y = with(REGISTER);
        for (int i = 0; i < 11; i++) {
            lost(y, 0, 0, 0, 0, 0);
        }
        sequential(y, 0, 0, 0, 0, 0, 5);
        CHECK.due("13: no end among many", y.judge(0), MANY);
        CHECK.due("13: so none", y.broken(0), NONE);
    }

    // Promise 14
    private static void linears() {
        LinearHistories x = with(REGISTER, QUEUE, REGISTER);
        CHECK.due("14: without events", x.linear(), 1);
        sequential(x, 7, 0, 0, 0, 0, 0);
        CHECK.due("14: linear", x.linear(), 1);
        for (int process = 0; process < 7; process++) {
            x.call(process, 1, 0, process, 0);
        }
        CHECK.due("14: many", x.linear(), MANY);
        sequential(x, 7, 2, 0, 0, 0, 1);
        CHECK.due("14: 0 goes before many", x.linear(), 0);
        CHECK.dueThrow("15: not linear", STATE, x::length);
        CHECK.dueThrow("16: not linear", STATE, () -> x.row(0));
        CHECK.dueThrow("16: not linear, and no place", STATE, () -> x.row(-1));
        CHECK.dueThrow("17: not linear", STATE, () -> x.result(0));
        CHECK.dueThrow("17: not linear, and no place", STATE, () -> x.result(99));
    }

    // Promises 15, 16 and 17
    private static void rows() {
        LinearHistories x = with(REGISTER);
        dueRow("empty", x, new int[] {}, new int[] {});
        x.call(0, 0, 2, 5, 0);
        dueRow("open ones can stay away", x, new int[] {}, new int[] {});
        x.call(1, 0, 4, 3, 0);
        x.call(2, 0, 2, 9, 0);
        x.back(1, 0);
        dueRow("the first that fits", x, new int[] {1}, new int[] {0});
        x.call(1, 0, 0, 0, 0);
        x.back(1, 8);
        CHECK.due("8 cannot be", x.linear(), 0);
        LinearHistories y = with(REGISTER);
        y.call(0, 0, 2, 5, 0);
        y.call(1, 0, 4, 3, 0);
        y.call(2, 0, 2, 9, 0);
        y.back(1, 5);
        dueRow("an open one that must be", y, new int[] {0, 1}, new int[] {0, 5});
        y.call(3, 0, 0, 0, 0);
        y.back(3, 8);
        dueRow("and what follows", y, new int[] {0, 1, 3}, new int[] {0, 5, 8});
        y.back(2, 0);
        dueRow("a later one in front", y, new int[] {2, 0, 1, 3}, new int[] {0, 9, 5, 8});
        y.lose(0);
        dueRow("a loss changes nothing", y, new int[] {2, 0, 1, 3}, new int[] {0, 9, 5, 8});
    }

    private static void rowsOfSeveral() {
        LinearHistories x = with(REGISTER, QUEUE, MAP);
        x.call(0, 1, 1, 0, 0);
        x.call(1, 0, 2, 4, 0);
        x.call(2, 1, 0, 6, 0);
        x.back(2, 0);
        dueRow("open ones of lesser numbers go in front", x, new int[] {0, 1, 2}, new int[] {NOTHING, 0, 0});
        x.call(2, 2, 0, 3, 8);
        x.back(0, 6);
        dueRow("not where they do not fit", x, new int[] {1, 2, 0}, new int[] {0, 0, 6});
        x.back(2, NOTHING);
        dueRow("with the map", x, new int[] {1, 2, 0, 3}, new int[] {0, 0, 6, NOTHING});
        x.call(5, 2, 1, 11, 0);
        x.call(6, 0, 0, 0, 0);
        x.back(6, 0);
        dueRow("dead ways are shunned", x, new int[] {2, 0, 3, 4, 5}, new int[] {0, 6, NOTHING, 8, 0});
        x.back(1, 0);
        dueRow("then it comes behind", x, new int[] {2, 0, 3, 4, 5, 1}, new int[] {0, 6, NOTHING, 8, 0, 0});
    }

    private static void rowsChange() {
        LinearHistories x = with(REGISTER, REGISTER);
        sequential(x, 0, 0, 0, 0, 0, 0);
        dueRow("one", x, new int[] {0}, new int[] {0});
        sequential(x, 0, 1, 1, 5, 0, 0);
        dueRow("two", x, new int[] {0, 1}, new int[] {0, 0});
        x.object(STACK);
        dueRow("a new object", x, new int[] {0, 1}, new int[] {0, 0});
        CHECK.due("own and broken leave it", x.judgeOwn(0) + x.broken(1), 0);
        dueRow("still", x, new int[] {0, 1}, new int[] {0, 0});
        sequential(x, 3, 1, 0, 0, 0, 4);
        CHECK.dueThrow("no row any more", STATE, x::length);
        x.clear();
        dueRow("empty again", x, new int[] {}, new int[] {});
    }
}
