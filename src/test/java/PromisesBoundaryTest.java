import java.util.function.IntToLongFunction;

/** Each sentence of the promises 1 to 17 that names a boundary case, with a test of its own. */
public final class PromisesBoundaryTest extends Histories {
    public static void main(String[] args) {
        CHECK.sentence("1: No objects, no events.", PromisesBoundaryTest::newOne);
        objects();
        calls();
        backs();
        losses();
        clears();
        eventCounts();
        possibilities();
        judgements();
        ownJudgements();
        ways();
        lasts();
        breaks();
        linears();
        lengths();
        rows();
        results();
        CHECK.end();
    }

    private static void newOne() {
        LinearHistories x = new LinearHistories();
        CHECK.due("events", x.events(), 0);
        CHECK.due("linear", x.linear(), 1);
        CHECK.due("length", x.length(), 0);
        CHECK.dueThrow("row(0)", BOUNDS, () -> x.row(0));
        CHECK.dueThrow("result(0)", BOUNDS, () -> x.result(0));
        noSuchObject(x, 0, x::judge);
        CHECK.dueThrow("call", ARGUMENT, () -> x.call(0, 0, 0, 0, 0));
        for (int i = 0; i < 8; i++) {
            int process = i;
            CHECK.dueThrow("back", STATE, () -> back(x, process, 0));
            CHECK.dueThrow("lose", STATE, () -> lose(x, process));
        }
        CHECK.due("clear", x.clear(), 0);
        LinearHistories other = with(REGISTER);
        other.call(0, 0, READ, 0, 0);
        CHECK.due("another one's events are its own", x.events(), 0);
        CHECK.due("another one's objects are its own", x.object(QUEUE), 0);
    }

    /** Only the numbers from 0 to one less than there are objects have an object. */
    private static void noSuchObject(LinearHistories x, int count, IntToLongFunction question) {
        for (int i = 0; i < count; i++) {
            int object = i;
            CHECK.isTrue("object " + i, !Check.outcome(() -> question.applyAsLong(object)).contains("Exception"));
        }
        for (int i : new int[] {count, count + 1, 6, 7, -1, -2, MOST, LEAST}) {
            CHECK.dueThrow("object " + i, ARGUMENT, () -> question.applyAsLong(i));
        }
    }

    /** With no object, one, six, and with none again when they are cleared. */
    private static void noSuchObject(LinearHistories x, IntToLongFunction question) {
        noSuchObject(x, 0, question);
        x.object(REGISTER);
        noSuchObject(x, 1, question);
        for (int kind = 1; kind < 6; kind++) {
            x.object(kind);
        }
        noSuchObject(x, 6, question);
        x.clear();
        noSuchObject(x, 0, question);
    }

    private static void objects() {
        CHECK.sentence("2: Answers its number, from 0 on; NONE when there are six.", () -> {
            LinearHistories x = new LinearHistories();
            for (int round = 0; round < 2; round++) {
                for (int i = 0; i < 6; i++) {
                    CHECK.due("object", x.object(MAP), i);
                }
                CHECK.due("a seventh", x.object(MAP), NONE);
                CHECK.due("and again", x.object(REGISTER), NONE);
                CHECK.dueThrow("none came", ARGUMENT, () -> x.judge(6));
                CHECK.dueThrow("the sixth is what it was", ARGUMENT, () -> x.call(0, 5, ADD, 0, 0));
                x.clear();
            }
        });
        CHECK.sentence("2: IllegalArgumentException: kind is not 0 to 5.", () -> {
            LinearHistories x = new LinearHistories();
            for (int kind : new int[] {-1, 6, LEAST, MOST, NONE, MANY}) {
                CHECK.dueThrow("kind " + kind, ARGUMENT, () -> x.object(kind));
            }
            for (int kind = 0; kind < 6; kind++) {
                CHECK.due("kind " + kind, x.object(kind), kind);
            }
            CHECK.dueThrow("kind 6, when there are six", ARGUMENT, () -> x.object(6));
            CHECK.dueThrow("kind -1, when there are six", ARGUMENT, () -> x.object(-1));
        });
    }

    private static void calls() {
        CHECK.sentence("3: NONE when there are 48", PromisesBoundaryTest::fortyEight);
        CHECK.sentence("3: or the object has 16.", PromisesBoundaryTest::sixteen);
        CHECK.sentence("3: IllegalArgumentException: process is not 0 to 7", () -> {
            LinearHistories x = with(REGISTER);
            for (int process : new int[] {-1, 8, LEAST, MOST}) {
                CHECK.dueThrow("process " + process, ARGUMENT, () -> x.call(process, 0, READ, 0, 0));
            }
            for (int process = 0; process < 8; process++) {
                CHECK.due("process " + process, x.call(process, 0, READ, 0, 0), process);
            }
        });
        CHECK.sentence("3: there is no such object", PromisesBoundaryTest::callOfNoObject);
        CHECK.sentence("3: or operation.", PromisesBoundaryTest::callOfNoOperation);
        CHECK.sentence("3: IllegalStateException: an operation of the process is open that is not lost.", () -> {
            LinearHistories x = with(REGISTER, QUEUE);
            CHECK.due("none yet", x.call(0, 0, READ, 0, 0), 0);
            CHECK.dueThrow("of the same object", STATE, () -> x.call(0, 0, READ, 0, 0));
            CHECK.dueThrow("of another object", STATE, () -> x.call(0, 1, PUT, 0, 0));
            CHECK.due("of another process", x.call(1, 0, READ, 0, 0), 1);
            x.lose(0);
            CHECK.due("it is lost", x.call(0, 1, PUT, 0, 0), 2);
            CHECK.dueThrow("open again, one is lost", STATE, () -> x.call(0, 0, READ, 0, 0));
            x.back(0, 9);
            CHECK.due("it came back, though with a wrong result", x.call(0, 0, READ, 0, 0), 3);
            x.clear();
            x.object(REGISTER);
            CHECK.due("it is cleared", x.call(0, 0, READ, 0, 0), 0);
        });
    }

    /** So many operations: the last four are open, of the others every second one is lost. */
    private static LinearHistories operations(int count) {
        LinearHistories x = with(REGISTER, REGISTER, REGISTER, REGISTER);
        for (int i = 0; i < count; i++) {
            int process = i % 8;
            CHECK.due("call", x.call(process, i % 4, READ, 0, 0), i);
            if (i < count - 4) {
                if (i % 2 == 0) {
                    x.back(process, 0);
                } else {
                    x.lose(process);
                }
            }
        }
        return x;
    }

    private static void fortyEight() {
        LinearHistories x = operations(47);
        CHECK.due("the last one", x.call(7, 3, READ, 0, 0), 47);
        for (int object = 0; object < 4; object++) {
            CHECK.due("one more", x.call(0, object, READ, 0, 0), NONE);
        }
        CHECK.due("no object has 16", x.object(QUEUE), 4);
        CHECK.due("of a new object", x.call(0, 4, PUT, 0, 0), NONE);
        CHECK.dueThrow("the process waits", STATE, () -> x.call(7, 4, PUT, 0, 0));
        CHECK.dueThrow("no such operation", ARGUMENT, () -> x.call(0, 4, 3, 0, 0));
        x.back(7, 0);
        CHECK.due("it came back, and they are still 48", x.call(7, 4, PUT, 0, 0), NONE);
        x.clear();
        x.object(REGISTER);
        CHECK.due("behind clear()", x.call(7, 0, READ, 0, 0), 0);
    }

    private static void sixteen() {
        LinearHistories x = with(REGISTER, QUEUE);
        for (int i = 0; i < 15; i++) {
            CHECK.due("call", x.call(0, 0, READ, 0, 0), i);
            if (i % 2 == 0) {
                x.back(0, 0);
            } else {
                x.lose(0);
            }
        }
        CHECK.due("the sixteenth", x.call(0, 0, READ, 0, 0), 15);
        CHECK.due("one more", x.call(1, 0, READ, 0, 0), NONE);
        CHECK.dueThrow("the process waits", STATE, () -> x.call(0, 0, READ, 0, 0));
        CHECK.dueThrow("the process of the refused call waits not", STATE, () -> back(x, 1, 0));
        x.back(0, 0);
        CHECK.due("it came back, and they are still 16", x.call(0, 0, READ, 0, 0), NONE);
        CHECK.due("the other object has none", x.call(0, 1, PUT, 0, 0), 16);
        CHECK.due("and may have 16 too", callsUntilNone(x, 1), 15);
    }

    private static int callsUntilNone(LinearHistories x, int object) {
        int count = 0;
        while (x.call(3, object, SIZE, 0, 0) != NONE) {
            x.lose(3);
            count++;
        }
        return count;
    }

    private static void callOfNoObject() {
        LinearHistories x = new LinearHistories();
        CHECK.dueThrow("there is none", ARGUMENT, () -> x.call(0, 0, 0, 0, 0));
        for (int count = 1; count <= 6; count++) {
            x.object(SET);
            for (int object : new int[] {-1, count, 6, 7, LEAST, MOST}) {
                CHECK.dueThrow("object " + object, ARGUMENT, () -> x.call(0, object, 0, 0, 0));
            }
            CHECK.due("the last one", x.call(0, count - 1, 0, 0, 0), count - 1);
            x.lose(0);
        }
        x.clear();
        CHECK.dueThrow("they are cleared", ARGUMENT, () -> x.call(0, 0, 0, 0, 0));
    }

    private static void callOfNoOperation() {
        LinearHistories x = with(REGISTER, QUEUE, STACK, SET, HEAP, MAP);
        int numbers = 0;
        for (int i = 0; i < 6; i++) {
            int object = i;
            int most = i == REGISTER ? 4 : 2;
            for (int operation : new int[] {-1, most + 1, LEAST, MOST}) {
                CHECK.dueThrow("operation " + operation, ARGUMENT, () -> x.call(0, object, operation, 0, 0));
            }
            for (int operation = 0; operation <= most; operation++) {
                CHECK.due("operation " + operation, x.call(0, object, operation, LEAST, MOST), numbers++);
                x.lose(0);
            }
        }
        x.clear();
        x.object(MAP);
        CHECK.dueThrow("where a register was", ARGUMENT, () -> x.call(0, 0, ADD, 0, 0));
    }

    private static void backs() {
        CHECK.sentence("4: The process's operation comes back.", () -> {
            for (int result : new int[] {NOTHING, LEAST + 1, MANY, NONE, 0, MOST}) {
                LinearHistories x = with(REGISTER);
                lost(x, 0, 0, WRITE, result, 0);
                x.call(1, 0, READ, 0, 0);
                x.call(2, 0, READ, 0, 0);
                x.back(1, result);
                CHECK.due("the result is seen, whatever it is", x.judge(0), 1);
                CHECK.due("the other one is open still", x.ways(0), result == 0 ? 1 + 2 + 2 + 6 : 4);
                x.back(2, result + 1);
                CHECK.due("a wrong one is seen, too", x.judge(0), result == NONE ? 1 : 0);
            }
        });
        CHECK.sentence("4: IllegalArgumentException: process is not 0 to 7.", () -> {
            LinearHistories x = with(REGISTER);
            for (int process = 0; process < 8; process++) {
                x.call(process, 0, READ, 0, 0);
            }
            for (int process : new int[] {-1, 8, LEAST, MOST}) {
                CHECK.dueThrow("process " + process, ARGUMENT, () -> back(x, process, 0));
            }
            for (int i = 0; i < 8; i++) {
                int process = i;
                CHECK.same("process " + i, Check.outcome(() -> back(x, process, 0)), "0");
            }
        });
        CHECK.sentence("4: IllegalStateException: it has none that is open and not lost.", () -> {
            LinearHistories x = with(REGISTER);
            CHECK.dueThrow("never called", STATE, () -> back(x, 0, 0));
            x.call(1, 0, READ, 0, 0);
            CHECK.dueThrow("another process's", STATE, () -> back(x, 0, 0));
            x.back(1, 0);
            CHECK.dueThrow("it came back", STATE, () -> back(x, 1, 0));
            lost(x, 2, 0, READ, 0, 0);
            CHECK.dueThrow("it is lost", STATE, () -> back(x, 2, 0));
            x.call(2, 0, READ, 0, 0);
            CHECK.same("another is open", Check.outcome(() -> back(x, 2, 0)), "0");
            CHECK.dueThrow("and the lost one stays lost", STATE, () -> back(x, 2, 0));
            x.call(3, 0, READ, 0, 0);
            x.clear();
            CHECK.dueThrow("it is cleared", STATE, () -> back(x, 3, 0));
        });
    }

    private static void losses() {
        CHECK.sentence("5: The process's operation is lost.", () -> {
            LinearHistories x = with(REGISTER);
            x.call(0, 0, WRITE, 5, 0);
            x.call(1, 0, WRITE, 6, 0);
            String before = picture(x);
            x.lose(0);
            CHECK.same("only the events tell it", picture(x), before.replaceFirst("2", "3"));
            CHECK.due("the process can call", x.call(0, 0, READ, 0, 0), 2);
            CHECK.dueThrow("the other one cannot", STATE, () -> x.call(1, 0, READ, 0, 0));
            x.back(0, 5);
            CHECK.due("it can have been done", x.judge(0), 1);
        });
        CHECK.sentence("5: IllegalArgumentException: as back().", () -> {
            LinearHistories x = with(REGISTER);
            for (int process = 0; process < 8; process++) {
                x.call(process, 0, READ, 0, 0);
            }
            for (int process : new int[] {-1, 8, LEAST, MOST}) {
                CHECK.dueThrow("process " + process, ARGUMENT, () -> lose(x, process));
            }
            for (int i = 0; i < 8; i++) {
                int process = i;
                CHECK.same("process " + i, Check.outcome(() -> lose(x, process)), "0");
            }
        });
        CHECK.sentence("5: IllegalStateException: as back().", () -> {
            LinearHistories x = with(REGISTER);
            CHECK.dueThrow("never called", STATE, () -> lose(x, 7));
            x.call(6, 0, READ, 0, 0);
            CHECK.dueThrow("another process's", STATE, () -> lose(x, 7));
            x.back(6, 0);
            CHECK.dueThrow("it came back", STATE, () -> lose(x, 6));
            lost(x, 7, 0, READ, 0, 0);
            CHECK.dueThrow("it is lost already", STATE, () -> lose(x, 7));
            x.call(7, 0, READ, 0, 0);
            CHECK.same("another is open", Check.outcome(() -> lose(x, 7)), "0");
            x.call(5, 0, READ, 0, 0);
            x.clear();
            CHECK.dueThrow("it is cleared", STATE, () -> lose(x, 5));
        });
    }

    private static void clears() {
        CHECK.sentence("6: No objects and events.", () -> {
            LinearHistories x = operations(48);
            x.object(STACK);
            x.object(MAP);
            cleared("48 operations", x);
            cleared("a row of 48", longest());
            cleared("one that has come back from all", brokenAll());
            cleared("no objects", new LinearHistories());
            cleared("many", LimitHistories.of2001());
        });
        CHECK.sentence("6: Answers how many events there were (calls, comings back, losses).", () -> {
            LinearHistories x = new LinearHistories();
            CHECK.due("none", x.clear(), 0);
            x.object(REGISTER);
            CHECK.due("an object is none", x.clear(), 0);
            x.object(REGISTER);
            x.call(0, 0, READ, 0, 0);
            CHECK.due("a call", x.clear(), 1);
            x.object(REGISTER);
            sequential(x, 0, 0, READ, 0, 0, 0);
            CHECK.due("and a coming back", x.clear(), 2);
            x.object(REGISTER);
            lost(x, 0, 0, READ, 0, 0);
            CHECK.due("and a loss", x.clear(), 2);
            CHECK.due("clear() is none, and none is left", x.clear(), 0);
            LinearHistories y = with(REGISTER, REGISTER, REGISTER);
            for (int i = 0; i < 48; i++) {
                sequential(y, 0, i / 16, READ, 0, 0, 0);
            }
            CHECK.due("the most that there can be", y.clear(), 96);
        });
    }

    /** All that was found out of the history is gone with it, and so is what was open. */
    private static void cleared(String what, LinearHistories x) {
        LinearHistories fresh = new LinearHistories();
        picture(x);
        x.clear();
        CHECK.same(what + ": as a new one", picture(x), picture(fresh));
        CHECK.same(what + ": what follows", tale(x), tale(fresh));
        x.clear();
        CHECK.same(what + ": behind another clear()", tale(x), tale(new LinearHistories()));
    }

    /** Every question about new objects, and then about a linear, a broken and a large one. */
    private static String tale(LinearHistories x) {
        x.object(HEAP);
        x.object(REGISTER);
        x.object(QUEUE);
        String first = picture(x);
        lost(x, 1, 0, PUT, 5, 0);
        x.call(2, 0, TAKE, 0, 0);
        x.call(3, 0, PUT, 4, 0);
        x.back(2, 4);
        String second = picture(x);
        sequential(x, 0, 1, READ, 0, 0, 0);
        sequential(x, 0, 1, READ, 0, 0, 1);
        sequential(x, 0, 1, READ, 0, 0, 2);
        for (int i = 0; i < 8; i++) {
            lost(x, 4, 2, PUT, i, 0);
        }
        return first + second + picture(x);
    }

    /** Six objects, each broken at its first coming back, of which it has four. */
    private static LinearHistories brokenAll() {
        LinearHistories x = with(0, 1, 2, 3, 4, 5);
        for (int i = 0; i < 24; i++) {
            sequential(x, i % 8, i % 6, 2, 0, 0, 77);
        }
        return x;
    }

    private static void eventCounts() {
        CHECK.sentence("7: How many events there are.", () -> {
            LinearHistories x = new LinearHistories();
            CHECK.due("none", x.events(), 0);
            x.object(REGISTER);
            x.object(REGISTER);
            x.object(REGISTER);
            CHECK.due("objects are none", x.events(), 0);
            int due = 0;
            for (int i = 0; i < 48; i++) {
                x.call(0, i / 16, READ, 0, 0);
                CHECK.due("a call", x.events(), ++due);
                CHECK.dueThrow("a refused one", STATE, () -> x.call(0, 0, READ, 0, 0));
                if (i % 2 == 0) {
                    x.back(0, 0);
                } else {
                    x.lose(0);
                }
                CHECK.due("a coming back or a loss", x.events(), ++due);
            }
            CHECK.due("a call too many", x.call(0, 0, READ, 0, 0), NONE);
            CHECK.dueThrow("nothing to come back", STATE, () -> back(x, 0, 0));
            CHECK.dueThrow("nothing to lose", STATE, () -> lose(x, 0));
            picture(x);
            CHECK.due("the most that there can be", x.events(), 96);
        });
    }

    private static void possibilities() {
        CHECK.sentence("8: How many possibilities an object has; MANY when there are more than 2000.", () -> {
            CHECK.due("one", with(SET).possibilities(0), 1);
            CHECK.due("2000", LimitHistories.of2000().possibilities(0), 2000);
            CHECK.due("2001", LimitHistories.of2001().possibilities(0), MANY);
            CHECK.due("2001 of writes", LimitHistories.of2001Short().possibilities(0), MANY);
            LinearHistories x = LimitHistories.of2000();
            x.call(5, 0, READ, 0, 0);
            CHECK.due("more by one that is open", x.possibilities(0), MANY);
            x.back(5, 9);
            CHECK.due("and 2000 again when it came back with what it never has", x.possibilities(0), 2000);
            LinearHistories y = with(REGISTER);
            for (int i = 0; i < 10; i++) {
                lost(y, 0, 0, READ, 0, 0);
            }
            CHECK.due("1024", y.possibilities(0), 1024);
            lost(y, 0, 0, READ, 0, 0);
            CHECK.due("2048", y.possibilities(0), MANY);
        });
        CHECK.sentence("8: IllegalArgumentException: there is no such object.", () -> {
            LinearHistories x = new LinearHistories();
            noSuchObject(x, x::possibilities);
        });
    }

    private static void judgements() {
        CHECK.sentence("9: 1 if the object is linear, 0 if not; MANY when it has more than 2000 possibilities.", () -> {
            CHECK.due("without operations", with(HEAP).judge(0), 1);
            CHECK.due("2000 and an end", LimitHistories.of2000().judge(0), 1);
            CHECK.due("2000 and no end", wrongBehind(LimitHistories.of2000()).judge(0), 0);
            CHECK.due("2001 and an end", LimitHistories.of2001().judge(0), MANY);
            CHECK.due("2001 and no end", wrongBehind(LimitHistories.of2001Short()).judge(0), MANY);
            LinearHistories x = with(REGISTER, REGISTER);
            sequential(x, 0, 0, READ, 0, 0, 1);
            CHECK.due("no end", x.judge(0), 0);
            CHECK.due("of the other one", x.judge(1), 1);
        });
        CHECK.sentence("9: IllegalArgumentException: there is no such object.", () -> {
            LinearHistories x = new LinearHistories();
            noSuchObject(x, x::judge);
        });
    }

    /** A read that comes back with what is never there: as many possibilities, and no end. */
    private static LinearHistories wrongBehind(LinearHistories x) {
        sequential(x, 7, 0, READ, 0, 0, 9);
        return x;
    }

    private static void ownJudgements() {
        CHECK.sentence("10: As judge(), in its own order.", () -> {
            CHECK.due("without operations", with(MAP).judgeOwn(0), 1);
            LinearHistories x = LimitHistories.own2000();
            CHECK.due("2000 and an end", x.judgeOwn(0), 1);
            CHECK.due("few otherwise", x.possibilities(0), 17);
            CHECK.due("2001", LimitHistories.own2001().judgeOwn(0), MANY);
            LinearHistories y = LimitHistories.of2001();
            CHECK.due("many otherwise", y.judge(0), MANY);
            CHECK.due("and few in its own order", y.judgeOwn(0), 1);
            LinearHistories z = with(REGISTER);
            for (int process = 0; process < 8; process++) {
                sequential(z, process, 0, READ, 0, 0, 0);
                sequential(z, process, 0, READ, 0, 0, 0);
            }
            CHECK.due("6561", z.judgeOwn(0), MANY);
            CHECK.due("which are 17 otherwise", z.judge(0), 1);
            LinearHistories u = with(REGISTER);
            for (int i = 0; i < 15; i++) {
                sequential(u, 0, 0, READ, 0, 0, 0);
            }
            sequential(u, 0, 0, READ, 0, 0, 1);
            CHECK.due("no end", u.judgeOwn(0), 0);
        });
        CHECK.sentence("10: IllegalArgumentException: there is no such object.", () -> {
            LinearHistories x = new LinearHistories();
            noSuchObject(x, x::judgeOwn);
        });
    }

    private static void ways() {
        CHECK.sentence("11: How many ways an object has; MANY as with judge().", () -> {
            CHECK.due("without operations", with(STACK).ways(0), 1);
            CHECK.due("2000 and no end", wrongBehind(LimitHistories.of2000()).ways(0), 0);
            CHECK.isTrue("2000 and an end", LimitHistories.of2000().ways(0) > 0);
            CHECK.due("2001", LimitHistories.of2001().ways(0), MANY);
            CHECK.due("2001 and no end", wrongBehind(LimitHistories.of2001Short()).ways(0), MANY);
            CHECK.due("more than an int holds", eightTwice().ways(0), 40320L * 40320L);
            LinearHistories x = with(REGISTER);
            for (int i = 0; i < 10; i++) {
                lost(x, 0, 0, READ, 0, 0);
            }
            CHECK.due("any of ten in any order", x.ways(0), 9864101);
        });
        CHECK.sentence("11: IllegalArgumentException: there is no such object.", () -> {
            LinearHistories x = new LinearHistories();
            noSuchObject(x, x::ways);
        });
    }

    /** Eight reads at once, and then eight more. */
    private static LinearHistories eightTwice() {
        LinearHistories x = with(REGISTER);
        for (int round = 0; round < 2; round++) {
            for (int process = 0; process < 8; process++) {
                x.call(process, 0, READ, 0, 0);
            }
            for (int process = 0; process < 8; process++) {
                x.back(process, 0);
            }
        }
        return x;
    }

    private static void lasts() {
        CHECK.sentence("12: How many states the object can have at its ends; MANY as with judge().", () -> {
            CHECK.due("without operations", with(QUEUE).lasts(0), 1);
            LinearHistories x = with(QUEUE);
            for (int i = 0; i < 6; i++) {
                lost(x, 0, 0, PUT, i, 0);
            }
            CHECK.due("a state for each possibility", x.possibilities(0), 1957);
            CHECK.due("all of them are ends", x.lasts(0), 1957);
            CHECK.due("2000 and one state", LimitHistories.of2000().lasts(0), 1);
            CHECK.due("2000 and no end", wrongBehind(LimitHistories.of2000()).lasts(0), 0);
            CHECK.due("2001", LimitHistories.of2001().lasts(0), MANY);
            CHECK.due("2001 and no end", wrongBehind(LimitHistories.of2001Short()).lasts(0), MANY);
            LinearHistories y = with(REGISTER);
            sequential(y, 0, 0, READ, 0, 0, 1);
            CHECK.due("no end", y.lasts(0), 0);
            LinearHistories z = with(SET);
            for (int i = 0; i < 10; i++) {
                lost(z, 0, 0, INSERT, i, 0);
            }
            CHECK.due("any of ten numbers", z.lasts(0), 1024);
        });
        CHECK.sentence("12: IllegalArgumentException: there is no such object.", () -> {
            LinearHistories x = new LinearHistories();
            noSuchObject(x, x::lasts);
        });
    }

    private static void breaks() {
        CHECK.sentence("13: The least number of events, counted from the first one of all,",
            PromisesBoundaryTest::leastNumberOfEvents);
        CHECK.sentence("13: behind which judge() would have answered 0;", PromisesBoundaryTest::judgedThen);
        CHECK.sentence("13: NONE when there is none.", () -> {
            CHECK.due("without operations", with(REGISTER).broken(0), NONE);
            LinearHistories x = with(REGISTER, REGISTER);
            x.call(0, 0, READ, 0, 0);
            CHECK.due("an open one", x.broken(0), NONE);
            x.lose(0);
            CHECK.due("a lost one", x.broken(0), NONE);
            sequential(x, 0, 0, READ, 0, 0, 0);
            CHECK.due("a good one", x.broken(0), NONE);
            sequential(x, 0, 1, READ, 0, 0, 1);
            CHECK.due("another object's", x.broken(0), NONE);
            CHECK.due("2000 and an end", LimitHistories.of2000().broken(0), NONE);
            CHECK.due("2001", LimitHistories.of2001().broken(0), NONE);
            x.clear();
            x.object(REGISTER);
            x.object(REGISTER);
            CHECK.due("where a broken one was", x.broken(1), NONE);
        });
        CHECK.sentence("13: IllegalArgumentException: there is no such object.", () -> {
            LinearHistories x = new LinearHistories();
            noSuchObject(x, x::broken);
        });
    }

    private static void leastNumberOfEvents() {
        LinearHistories x = with(REGISTER);
        sequential(x, 0, 0, READ, 0, 0, 1);
        CHECK.due("the first coming back of all", x.broken(0), 2);
        sequential(x, 0, 0, READ, 0, 0, 0);
        sequential(x, 0, 0, READ, 0, 0, 1);
        CHECK.due("the least stays", x.broken(0), 2);
        x.clear();
        x.object(QUEUE);
        lost(x, 0, 0, PUT, 3, 0);
        sequential(x, 0, 0, TAKE, 0, 0, 4);
        CHECK.due("counted anew behind clear()", x.broken(0), 4);
        LinearHistories y = with(REGISTER, REGISTER, REGISTER);
        for (int i = 0; i < 47; i++) {
            sequential(y, i % 8, i / 16, READ, 0, 0, 0);
        }
        y.call(7, 2, READ, 0, 0);
        CHECK.due("not yet", y.broken(2), NONE);
        y.back(7, 1);
        CHECK.due("the last event that there can be", y.broken(2), 96);
        LinearHistories z = with(REGISTER, QUEUE);
        z.call(0, 0, READ, 0, 0);
        lost(z, 1, 1, PUT, 5, 0);
        sequential(z, 1, 1, TAKE, 0, 0, 5);
        z.back(0, 7);
        sequential(z, 2, 1, TAKE, 0, 0, 5);
        CHECK.due("other objects' events count", z.broken(0), 6);
        CHECK.due("each object has its own", z.broken(1), 8);
        CHECK.due("asked only at the end", z.broken(0), 6);
    }

    private static void judgedThen() {
        LinearHistories x = with(REGISTER);
        x.call(0, 0, WRITE, 5, 0);
        sequential(x, 1, 0, READ, 0, 0, 5);
        x.call(1, 0, READ, 0, 0);
        x.call(2, 0, WRITE, 0, 0);
        x.back(1, 0);
        CHECK.due("it is linear", x.judge(0), 1);
        CHECK.due("what was open then is open then", x.broken(0), NONE);
        x.back(2, 1);
        CHECK.due("and broken only when it came back", x.broken(0), 7);
        LinearHistories y = LimitHistories.of2000();
        int before = y.events();
        wrongBehind(y);
        CHECK.due("2000 and no end", y.broken(0), before + 2);
        LinearHistories z = wrongBehind(LimitHistories.of2001Short());
        CHECK.due("2001 and no end is MANY, not 0", z.broken(0), NONE);
        LinearHistories u = with(QUEUE);
        for (int process = 0; process < 7; process++) {
            u.call(process, 0, PUT, process, 0);
        }
        sequential(u, 7, 0, SIZE, 0, 0, 99);
        CHECK.due("no end, but many", u.judge(0), MANY);
        u.back(6, 1);
        CHECK.due("no end, and few", u.judge(0), 0);
        CHECK.due("since they are few", u.broken(0), 10);
        u.back(5, 1);
        CHECK.due("and fewer", u.broken(0), 10);
    }

    private static void linears() {
        CHECK.sentence("14: 1 if the history is linear;", () -> {
            CHECK.due("no objects", new LinearHistories().linear(), 1);
            CHECK.due("no events", with(0, 1, 2, 3, 4, 5).linear(), 1);
            CHECK.due("2000", LimitHistories.of2000().linear(), 1);
            CHECK.due("48 operations", longest().linear(), 1);
        });
        CHECK.sentence("14: 0 if some object's judge() is 0;", () -> {
            CHECK.due("the first one, and many behind it", manyAndWrong(0, 1).linear(), 0);
            CHECK.due("the last one, and many in front of it", manyAndWrong(5, 0).linear(), 0);
            CHECK.due("one of six", manyAndWrong(5, 5).linear(), 0);
        });
        CHECK.sentence("14: MANY otherwise.", () -> {
            CHECK.due("2001", LimitHistories.of2001().linear(), MANY);
            CHECK.due("2001 and no end", wrongBehind(LimitHistories.of2001Short()).linear(), MANY);
            LinearHistories x = with(REGISTER, REGISTER);
            for (int i = 0; i < 16; i++) {
                lost(x, 0, 0, READ, 0, 0);
            }
            sequential(x, 0, 1, READ, 0, 0, 0);
            CHECK.due("many, and a linear one behind", x.linear(), MANY);
            sequential(x, 0, 1, READ, 0, 0, 1);
            CHECK.due("many, and a broken one behind", x.linear(), 0);
        });
    }

    /** Six objects, one with a wrong operation, and another one with too many possibilities. */
    private static LinearHistories manyAndWrong(int wrong, int many) {
        LinearHistories x = with(0, 0, 0, 0, 0, 0);
        sequential(x, 0, wrong, READ, 0, 0, 1);
        for (int i = 0; i < 12; i++) {
            lost(x, 0, many, READ, 0, 0);
        }
        return x;
    }

    private static void lengths() {
        CHECK.sentence("15: How many operations the row has.", () -> {
            CHECK.due("no objects", new LinearHistories().length(), 0);
            LinearHistories x = with(REGISTER);
            lost(x, 0, 0, READ, 0, 0);
            CHECK.due("only open ones", x.length(), 0);
            CHECK.due("the most that there can be", longest().length(), 48);
            CHECK.due("2000", LimitHistories.of2000().length(), 14);
        });
        CHECK.sentence("15: IllegalStateException: linear() is not 1.", () -> {
            LinearHistories x = with(REGISTER);
            sequential(x, 0, 0, READ, 0, 0, 1);
            CHECK.dueThrow("0", STATE, x::length);
            CHECK.dueThrow("MANY", STATE, LimitHistories.of2001()::length);
            x.clear();
            CHECK.due("1 again", x.length(), 0);
        });
    }

    /** 48 operations that came back, one after the other. */
    private static LinearHistories longest() {
        LinearHistories x = with(REGISTER, REGISTER, REGISTER);
        for (int i = 0; i < 48; i++) {
            sequential(x, i % 8, i % 3, ADD, i, 0, sumBefore(i));
        }
        return x;
    }

    /** What was added to the same of three registers before. */
    private static int sumBefore(int i) {
        int sum = 0;
        for (int k = i - 3; k >= 0; k -= 3) {
            sum += k;
        }
        return sum;
    }

    private static void rows() {
        CHECK.sentence("16: The operation at place i of the row.", () -> {
            LinearHistories x = longest();
            for (int i = 0; i < 48; i++) {
                CHECK.due("place " + i, x.row(i), i);
            }
            LinearHistories y = new LinearHistories();
            y.object(QUEUE);
            for (int process = 0; process < 8; process++) {
                y.call(process, 0, process < 4 ? TAKE : PUT, process, 0);
            }
            for (int process = 0; process < 4; process++) {
                y.back(process, 7 - process);
            }
            CHECK.same("each take behind its put", row(y), "4 3 5 2 6 1 7 0");
        });
        CHECK.sentence("16: IllegalStateException: linear() is not 1.", () -> {
            LinearHistories x = with(REGISTER);
            sequential(x, 0, 0, READ, 0, 0, 0);
            CHECK.due("1", x.row(0), 0);
            sequential(x, 0, 0, READ, 0, 0, 1);
            for (int i : new int[] {0, 1, 2, -1, LEAST, MOST}) {
                CHECK.dueThrow("0: row " + i, STATE, () -> x.row(i));
                CHECK.dueThrow("MANY: row " + i, STATE, () -> LimitHistories.of2001().row(i));
            }
        });
        CHECK.sentence("16: IndexOutOfBoundsException: there is none.", () -> {
            LinearHistories x = new LinearHistories();
            outside("no objects", 0, x::row);
            outside("48 operations", 48, longest()::row);
            x.object(REGISTER);
            lost(x, 0, 0, READ, 0, 0);
            outside("a lost one", 0, x::row);
            sequential(x, 0, 0, READ, 0, 0, 0);
            lost(x, 0, 0, READ, 0, 0);
            outside("one that came back between lost ones", 2, x::row);
        });
    }

    private static void outside(String what, int length, IntToLongFunction place) {
        for (int i : new int[] {-1, length, length + 1, 48, 49, LEAST, MOST}) {
            CHECK.dueThrow(what + ": place " + i, BOUNDS, () -> place.applyAsLong(i));
        }
        for (int i = 0; i < length; i++) {
            int at = i;
            CHECK.isTrue(what + ": place " + i, !Check.outcome(() -> place.applyAsLong(at)).contains("Exception"));
        }
    }

    private static void results() {
        CHECK.sentence("17: The result that the operation at place i of the row has there.", () -> {
            LinearHistories x = longest();
            for (int i = 0; i < 48; i++) {
                CHECK.due("place " + i, x.result(i), sumBefore(i));
            }
            LinearHistories y = with(REGISTER, MAP, STACK);
            y.call(0, 0, SWAP, NONE, 0);
            y.call(1, 0, SWAP, MOST, 0);
            y.call(2, 1, GET, 3, 0);
            y.call(3, 2, TAKE, 3, 0);
            y.call(4, 0, READ, 0, 0);
            y.back(4, MOST);
            dueRow("open ones have the results that they have there", y,
                new int[] {0, 1, 2, 3, 4}, new int[] {0, NONE, NOTHING, NOTHING, MOST});
            y.back(0, MOST);
            dueRow("one that came back stands where it has its result", y,
                new int[] {1, 2, 3, 4, 0}, new int[] {0, NOTHING, NOTHING, MOST, MOST});
        });
        CHECK.sentence("17: IllegalStateException: linear() is not 1.", () -> {
            LinearHistories x = with(REGISTER);
            sequential(x, 0, 0, READ, 0, 0, 0);
            CHECK.due("1", x.result(0), 0);
            sequential(x, 0, 0, READ, 0, 0, 1);
            for (int i : new int[] {0, 1, 2, -1, LEAST, MOST}) {
                CHECK.dueThrow("0: result " + i, STATE, () -> x.result(i));
                CHECK.dueThrow("MANY: result " + i, STATE, () -> LimitHistories.of2001().result(i));
            }
        });
        CHECK.sentence("17: IndexOutOfBoundsException: there is none.", () -> {
            LinearHistories x = new LinearHistories();
            outside("no objects", 0, x::result);
            outside("48 operations", 48, longest()::result);
            x.object(REGISTER);
            lost(x, 0, 0, READ, 0, 0);
            outside("a lost one", 0, x::result);
            sequential(x, 0, 0, READ, 0, 0, 0);
            lost(x, 0, 0, READ, 0, 0);
            outside("one that came back between lost ones", 2, x::result);
        });
    }
}
