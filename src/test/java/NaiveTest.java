import java.util.Arrays;
import java.util.List;
import java.util.Random;
import java.util.function.LongSupplier;

/** Gives the same calls to the program and to NaiveHistories, and compares every answer. */
public final class NaiveTest {
    private static final int[] ODD_NUMBERS =
        {-1, -2, 8, 9, 16, Integer.MIN_VALUE, Integer.MAX_VALUE, Integer.MIN_VALUE + 1};

    private final Random random;
    private final Check check;
    private final String name;
    private final LinearHistories program = new LinearHistories();
    private final NaiveHistories naive = new NaiveHistories();
    /** What really happens, so that most results can be explained. */
    private final NaiveHistories.Thing[] things = new NaiveHistories.Thing[6];
    private final NaiveHistories.Op[] running = new NaiveHistories.Op[8];
    private final boolean[] effected = new boolean[8];
    private final StringBuilder story = new StringBuilder();
    private int lies;

    private NaiveTest(int seed, Check check) {
        this.random = new Random(seed);
        this.check = check;
        this.name = "run " + seed;
    }

    public static void main(String[] args) {
        Check check = new Check();
        int runs = args.length > 0 ? Integer.parseInt(args[0]) : 1500;
        int from = args.length > 1 ? Integer.parseInt(args[1]) : 0;
        for (int seed = from; seed < from + runs; seed++) {
            new NaiveTest(seed, check).run();
        }
        check.end();
    }

    private String same(String what, LongSupplier got, LongSupplier want) {
        String g = Check.outcome(got);
        String w = Check.outcome(want);
        story.append(what).append(" = ").append(w).append('\n');
        if (!g.equals(w)) {
            System.out.println(story);
            System.out.println(name + ": " + what + " answered " + g + ", due is " + w);
        }
        check.isTrue(name + ": " + what, g.equals(w));
        return w;
    }

    private void run() {
        int kinds = 1 + random.nextInt(3);
        int processes = 2 + random.nextInt(7);
        int numbers = 1 + random.nextInt(4);
        lies = random.nextInt(3) == 0 ? 0 : 4 + random.nextInt(30);
        int loss = random.nextInt(3) == 0 ? 0 : 4 + random.nextInt(20);
        int asks = 2 + random.nextInt(12);
        int steps = 20 + random.nextInt(100);
        for (int i = 0; i < kinds; i++) {
            makeObject(random.nextInt(6));
        }
        for (int i = 0; i < steps; i++) {
            if (random.nextInt(40) == 0) {
                wrongCall();
            } else if (random.nextInt(150) == 0) {
                same("clear()", program::clear, naive::clear);
                Arrays.fill(running, null);
                makeObject(random.nextInt(6));
            } else if (random.nextInt(60) == 0) {
                makeObject(random.nextInt(6));
            } else if (random.nextInt(asks) == 0) {
                askOne();
            } else {
                move(random.nextInt(processes), numbers, loss);
            }
        }
        askAll();
    }

    private void makeObject(int kind) {
        String answer = same("object(" + kind + ")", () -> program.object(kind), () -> naive.object(kind));
        int number = Integer.parseInt(answer);
        if (number >= 0) {
            things[number] = new NaiveHistories.Thing(kind);
        }
    }

    private int someNumber(int numbers) {
        return random.nextInt(25) == 0
            ? ODD_NUMBERS[random.nextInt(ODD_NUMBERS.length)] : random.nextInt(numbers);
    }

    private void move(int process, int numbers, int loss) {
        NaiveHistories.Op op = running[process];
        if (op == null) {
            begin(process, numbers);
        } else if (!effected[process]) {
            if (loss != 0 && random.nextInt(loss) == 0) {
                loseIt(process);
                return;
            }
            op.result = things[op.object].apply(op);
            effected[process] = true;
        } else if (loss != 0 && random.nextInt(loss) == 0) {
            loseIt(process);
        } else {
            int result = lies != 0 && random.nextInt(lies) == 0 ? someNumber(numbers) : op.result;
            running[process] = null;
            sameBack(process, result);
        }
    }

    private void loseIt(int process) {
        running[process] = null;
        sameLose(process);
    }

    private void sameLose(int process) {
        same("lose(" + process + ")", () -> {
            program.lose(process);
            return 0;
        }, () -> {
            naive.lose(process);
            return 0;
        });
    }

    private void sameBack(int process, int result) {
        same("back(" + process + ", " + result + ")", () -> {
            program.back(process, result);
            return 0;
        }, () -> {
            naive.back(process, result);
            return 0;
        });
    }

    private void begin(int process, int numbers) {
        int object = random.nextInt(naive.kinds.size());
        int code = random.nextInt(naive.kinds.get(object) == 0 ? 5 : 3);
        int a = someNumber(numbers);
        int b = someNumber(numbers);
        String answer = same("call(" + process + ", " + object + ", " + code + ", " + a + ", " + b + ")",
            () -> program.call(process, object, code, a, b), () -> naive.call(process, object, code, a, b));
        if (Integer.parseInt(answer) < 0) {
            return;
        }
        NaiveHistories.Op op = new NaiveHistories.Op();
        op.object = object;
        op.code = code;
        op.a = a;
        op.b = b;
        running[process] = op;
        effected[process] = false;
    }

    /** Wrong in at least one thing, or else of no effect on a process that has nothing open. */
    private void wrongCall() {
        int wild = random.nextBoolean() ? -1 - random.nextInt(3) : 6 + random.nextInt(5);
        int process = random.nextInt(12) - 2;
        int object = random.nextInt(10) - 2;
        boolean idle = process < 0 || process > 7 || running[process] == null;
        switch (random.nextInt(5)) {
            case 0:
                same("object(" + wild + ")", () -> program.object(wild), () -> naive.object(wild));
                break;
            case 1:
                same("call(" + process + ", " + object + ", " + wild + ", 0, 0)",
                    () -> program.call(process, object, wild, 0, 0),
                    () -> naive.call(process, object, wild, 0, 0));
                break;
            case 2:
                if (idle && process >= 0 && process < 8) {
                    loseOrBackIdle(process);
                } else {
                    same("call(" + process + ", " + object + ", 0, 0, 0)",
                        () -> program.call(process, object, 0, 0, 0),
                        () -> naive.call(process, object, 0, 0, 0));
                }
                break;
            case 3:
                loseOrBackIdle(process < 0 ? process : process + 8);
                break;
            default:
                ask(object, random.nextInt(6));
                break;
        }
    }

    private void loseOrBackIdle(int process) {
        if (process >= 0 && process < 8 && running[process] != null) {
            return;
        }
        sameLose(process);
        sameBack(process, 0);
    }

    private void ask(int object, int question) {
        switch (question) {
            case 0:
                same("possibilities(" + object + ")",
                    () -> program.possibilities(object), () -> naive.possibilities(object));
                break;
            case 1:
                same("judge(" + object + ")", () -> program.judge(object), () -> naive.judge(object));
                break;
            case 2:
                same("judgeOwn(" + object + ")",
                    () -> program.judgeOwn(object), () -> naive.judgeOwn(object));
                break;
            case 3:
                same("ways(" + object + ")", () -> program.ways(object), () -> naive.ways(object));
                break;
            case 4:
                same("lasts(" + object + ")", () -> program.lasts(object), () -> naive.lasts(object));
                break;
            default:
                same("broken(" + object + ")", () -> program.broken(object), () -> naive.broken(object));
                break;
        }
    }

    private void askOne() {
        switch (random.nextInt(8)) {
            case 0:
                same("events()", program::events, () -> naive.events);
                break;
            case 1:
                same("linear()", program::linear, naive::linear);
                break;
            case 2:
                same("length()", program::length, naive::length);
                break;
            case 3:
                int i = random.nextInt(20) - 1;
                same("row(" + i + ")", () -> program.row(i), () -> naive.row(i));
                same("result(" + i + ")", () -> program.result(i), () -> naive.result(i));
                break;
            default:
                ask(random.nextInt(naive.kinds.size() + 1), random.nextInt(6));
                break;
        }
    }

    private void askAll() {
        for (int object = 0; object < naive.kinds.size(); object++) {
            for (int question = 0; question < 6; question++) {
                ask(object, question);
            }
        }
        same("events()", program::events, () -> naive.events);
        String linear = same("linear()", program::linear, naive::linear);
        String length = same("length()", program::length, naive::length);
        if (!linear.equals("1")) {
            return;
        }
        List<int[]> row = naive.wholeRow();
        for (int i = 0; i < Integer.parseInt(length); i++) {
            int at = i;
            same("row(" + i + ")", () -> program.row(at), () -> row.get(at)[0]);
            same("result(" + i + ")", () -> program.result(at), () -> row.get(at)[1]);
        }
    }
}
