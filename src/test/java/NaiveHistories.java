import java.util.ArrayDeque;
import java.util.ArrayList;
import java.util.BitSet;
import java.util.HashMap;
import java.util.HashSet;
import java.util.LinkedHashMap;
import java.util.List;
import java.util.Map;
import java.util.Set;
import java.util.TreeMap;
import java.util.TreeSet;

/**
 * The document once more, as near to its words as can be and without any regard to speed: what
 * the program is measured against. Nothing is kept but the events; each answer is found anew.
 */
final class NaiveHistories {
    static final int NOTHING = Integer.MIN_VALUE, NONE = -1, MANY = -2, LIMIT = 2000;

    static final class Op {
        int number, process, object, code, a, b, result;
        int calledAt;
        int backAt = Integer.MAX_VALUE;
        boolean lost;
    }

    /** What one object has, in the library's own collections. */
    static final class Thing {
        final int kind;
        int value;
        List<Integer> list = new ArrayList<>();
        TreeSet<Integer> set = new TreeSet<>();
        TreeMap<Integer, Integer> map = new TreeMap<>();

        Thing(int kind) {
            this.kind = kind;
        }

        Thing copy() {
            Thing c = new Thing(kind);
            c.value = value;
            c.list.addAll(list);
            c.set.addAll(set);
            c.map.putAll(map);
            return c;
        }

        String text() {
            return value + " " + list + " " + set + " " + map;
        }

        int apply(Op o) {
            switch (kind) {
                case 0: return register(o);
                case 1: return o.code == 0 ? put(o) : o.code == 1 ? take(0) : list.size();
                case 2: return o.code == 0 ? put(o) : o.code == 1 ? take(list.size() - 1) : list.size();
                case 3: return member(o);
                case 4: return o.code == 0 ? put(o) : o.code == 1 ? take(0) : list.size();
                default: return mapping(o);
            }
        }

        private int register(Op o) {
            int was = value;
            if (o.code == 0) return was;
            if (o.code == 1) { value = o.a; return 0; }
            if (o.code == 2) { value = o.a; return was; }
            if (o.code == 4) { value = was + o.a; return was; }
            if (was != o.a) return 0;
            value = o.b;
            return 1;
        }

        private int put(Op o) {
            list.add(o.a);
            if (kind == 4) list.sort(null);
            return 0;
        }

        private int take(int at) {
            return list.isEmpty() ? NOTHING : list.remove(at);
        }

        private int member(Op o) {
            if (o.code == 0) return set.add(o.a) ? 1 : 0;
            if (o.code == 1) return set.remove(o.a) ? 1 : 0;
            return set.contains(o.a) ? 1 : 0;
        }

        private int mapping(Op o) {
            int key = o.a & 7;
            int was = map.getOrDefault(key, NOTHING);
            if (o.code == 0 && o.b != NOTHING) map.put(key, o.b);
            if (o.code == 0 && o.b == NOTHING || o.code == 2) map.remove(key);
            return was;
        }
    }

    static final class Possibility {
        final Set<Integer> done;
        final Thing thing;
        int lastResult;

        Possibility(Set<Integer> done, Thing thing) {
            this.done = done;
            this.thing = thing;
        }

        String text() {
            return done + " " + thing.text();
        }
    }

    final List<Integer> kinds = new ArrayList<>();
    final List<Op> ops = new ArrayList<>();
    int events = 0;

    int object(int kind) {
        if (kind < 0 || kind > 5) throw new IllegalArgumentException();
        if (kinds.size() == 6) return NONE;
        kinds.add(kind);
        return kinds.size() - 1;
    }

    private void needObject(int object) {
        if (object < 0 || object >= kinds.size()) throw new IllegalArgumentException();
    }

    private Op openOf(int process) {
        for (Op o : ops) {
            if (o.process == process && o.backAt > events && !o.lost) return o;
        }
        return null;
    }

    int call(int process, int object, int operation, int a, int b) {
        if (process < 0 || process > 7) throw new IllegalArgumentException();
        needObject(object);
        int most = kinds.get(object) == 0 ? 5 : 3;
        if (operation < 0 || operation >= most) throw new IllegalArgumentException();
        if (openOf(process) != null) throw new IllegalStateException();
        if (ops.size() == 48 || ofObject(object, events).size() == 16) return NONE;
        Op o = new Op();
        o.number = ops.size();
        o.process = process;
        o.object = object;
        o.code = operation;
        o.a = a;
        o.b = b;
        o.calledAt = ++events;
        ops.add(o);
        return o.number;
    }

    void back(int process, int result) {
        if (process < 0 || process > 7) throw new IllegalArgumentException();
        Op o = openOf(process);
        if (o == null) throw new IllegalStateException();
        o.result = result;
        o.backAt = ++events;
    }

    void lose(int process) {
        if (process < 0 || process > 7) throw new IllegalArgumentException();
        Op o = openOf(process);
        if (o == null) throw new IllegalStateException();
        o.lost = true;
        events++;
    }

    int clear() {
        int was = events;
        kinds.clear();
        ops.clear();
        events = 0;
        return was;
    }

    private List<Op> ofObject(int object, int until) {
        List<Op> found = new ArrayList<>();
        for (Op o : ops) {
            if (o.object == object && o.calledAt <= until) found.add(o);
        }
        return found;
    }

    private static boolean isBefore(Op x, Op y, int until, boolean own) {
        if (own) return x.process == y.process && x.calledAt < y.calledAt;
        return x.backAt <= until && x.backAt < y.calledAt;
    }

    private static Possibility step(Possibility p, Op x, List<Op> all, int until, boolean own) {
        if (p.done.contains(x.number)) return null;
        for (Op y : all) {
            if (isBefore(y, x, until, own) && !p.done.contains(y.number)) return null;
        }
        Thing behind = p.thing.copy();
        int result = behind.apply(x);
        if (x.backAt <= until && x.result != result) return null;
        Set<Integer> done = new TreeSet<>(p.done);
        done.add(x.number);
        Possibility next = new Possibility(done, behind);
        next.lastResult = result;
        return next;
    }

    private static boolean isEnd(Possibility p, List<Op> all, int until) {
        for (Op y : all) {
            if (y.backAt <= until && !p.done.contains(y.number)) return false;
        }
        return true;
    }

    private Possibility first(int object) {
        return new Possibility(new TreeSet<>(), new Thing(kinds.get(object)));
    }

    /** All of them by their texts; null when there are too many. */
    private Map<String, Possibility> all(int object, int until, boolean own) {
        List<Op> mine = ofObject(object, until);
        Map<String, Possibility> found = new LinkedHashMap<>();
        ArrayDeque<Possibility> left = new ArrayDeque<>();
        found.put(first(object).text(), first(object));
        left.add(first(object));
        while (!left.isEmpty()) {
            Possibility p = left.remove();
            for (Op x : mine) {
                Possibility q = step(p, x, mine, until, own);
                if (q != null && found.putIfAbsent(q.text(), q) == null) left.add(q);
            }
            if (found.size() > LIMIT) return null;
        }
        return found;
    }

    int possibilities(int object) {
        needObject(object);
        Map<String, Possibility> found = all(object, events, false);
        return found == null ? MANY : found.size();
    }

    private int judgeAt(int object, int until, boolean own) {
        Map<String, Possibility> found = all(object, until, own);
        if (found == null) return MANY;
        List<Op> mine = ofObject(object, until);
        for (Possibility p : found.values()) {
            if (isEnd(p, mine, until)) return 1;
        }
        return 0;
    }

    int judge(int object) {
        needObject(object);
        return judgeAt(object, events, false);
    }

    int judgeOwn(int object) {
        needObject(object);
        return judgeAt(object, events, true);
    }

    long ways(int object) {
        needObject(object);
        if (all(object, events, false) == null) return MANY;
        return waysFrom(first(object), ofObject(object, events), new HashMap<>());
    }

    private long waysFrom(Possibility p, List<Op> mine, Map<String, Long> known) {
        Long was = known.get(p.text());
        if (was != null) return was;
        long sum = isEnd(p, mine, events) ? 1 : 0;
        for (Op x : mine) {
            Possibility q = step(p, x, mine, events, false);
            if (q != null) sum += waysFrom(q, mine, known);
        }
        known.put(p.text(), sum);
        return sum;
    }

    int lasts(int object) {
        needObject(object);
        Map<String, Possibility> found = all(object, events, false);
        if (found == null) return MANY;
        Set<String> texts = new HashSet<>();
        for (Possibility p : found.values()) {
            if (isEnd(p, ofObject(object, events), events)) texts.add(p.thing.text());
        }
        return texts.size();
    }

    int broken(int object) {
        needObject(object);
        for (int until = 0; until <= events; until++) {
            if (judgeAt(object, until, false) == 0) return until;
        }
        return NONE;
    }

    int linear() {
        boolean many = false;
        for (int object = 0; object < kinds.size(); object++) {
            int j = judge(object);
            if (j == 0) return 0;
            many |= j == MANY;
        }
        return many ? MANY : 1;
    }

    /** Operations and their results, in turn: the first whole row that trying in order finds. */
    List<int[]> wholeRow() {
        if (linear() != 1) throw new IllegalStateException();
        List<Possibility> at = new ArrayList<>();
        for (int object = 0; object < kinds.size(); object++) at.add(first(object));
        List<int[]> row = new ArrayList<>();
        List<Map<String, Long>> hopes = new ArrayList<>();
        for (int object = 0; object < kinds.size(); object++) hopes.add(new HashMap<>());
        if (!complete(at, row, new BitSet(), hopes)) throw new AssertionError("no row");
        return row;
    }

    /** Leaves out only what one object alone makes vain, and tries all the rest. */
    private boolean complete(
            List<Possibility> at, List<int[]> row, BitSet placed, List<Map<String, Long>> hopes) {
        boolean ended = true;
        for (int object = 0; object < at.size(); object++) {
            ended &= isEnd(at.get(object), ofObject(object, events), events);
        }
        if (ended) return true;
        for (Op x : ops) {
            if (placed.get(x.number) || !allBeforePlaced(x, placed)) continue;
            Possibility was = at.get(x.object);
            Possibility q = step(was, x, ofObject(x.object, events), events, false);
            if (q == null) continue;
            if (waysFrom(q, ofObject(x.object, events), hopes.get(x.object)) == 0) continue;
            at.set(x.object, q);
            placed.set(x.number);
            row.add(new int[] {x.number, q.lastResult});
            if (complete(at, row, placed, hopes)) return true;
            row.remove(row.size() - 1);
            placed.clear(x.number);
            at.set(x.object, was);
        }
        return false;
    }

    private boolean allBeforePlaced(Op x, BitSet placed) {
        for (Op y : ops) {
            if (isBefore(y, x, events, false) && !placed.get(y.number)) return false;
        }
        return true;
    }

    int length() {
        return wholeRow().size();
    }

    private int[] at(int i) {
        List<int[]> row = wholeRow();
        if (i < 0 || i >= row.size()) throw new IndexOutOfBoundsException();
        return row.get(i);
    }

    int row(int i) {
        return at(i)[0];
    }

    int result(int i) {
        return at(i)[1];
    }
}
