import java.util.Arrays;

/**
 * Judges what was seen of objects that many processes used at once: whether each operation can
 * have been done at one moment between its call and its coming back, in which orders, in how
 * many, which is the first of them; from which event on it cannot; and whether at least each
 * process's own order can be kept.
 */
public final class LinearHistories {
    public static final int NOTHING = -2147483648;
    public static final int NONE = -1, MANY = -2;

    private static final int MOST_OBJECTS = 6, MOST_PROCESSES = 8, MOST_OPERATIONS = 48;
    private static final int MOST_OF_ONE_OBJECT = 16, MOST_POSSIBILITIES = 2000;

    private static final int REGISTER = 0, STACK = 2, SET = 3, HEAP = 4, MAP = 5;
    private static final int OPERATIONS_OF_REGISTER = 5, OPERATIONS_OF_OTHERS = 3;

    private final Subject[] subjects = new Subject[MOST_OBJECTS];
    private final int[] owners = new int[MOST_OPERATIONS];
    private final int[] places = new int[MOST_OPERATIONS];
    /** For each operation those of all objects that are before it, a bit each. */
    private final long[] earlier = new long[MOST_OPERATIONS];
    /** For each process the operation that it waits for, or NONE. */
    private final int[] waiting = new int[MOST_PROCESSES];
    /** For walks that no later call needs, so that the subjects' own ones stay whole. */
    private final Space scratch = new Space();
    private final int[] rowNumbers = new int[MOST_OPERATIONS];
    private final int[] rowResults = new int[MOST_OPERATIONS];
    /** For each object the possibility that the row has come to. */
    private final int[] reached = new int[MOST_OBJECTS];
    private int rowLength;
    private boolean rowBuilt;
    private int objectCount;
    private int operationCount;
    private int eventCount;
    private long cameBack;

    public LinearHistories() {
        Arrays.fill(waiting, NONE);
    }

    public int object(int kind) throws IllegalArgumentException {
        if (kind < REGISTER || kind > MAP) {
            throw new IllegalArgumentException("no such kind");
        }
        if (objectCount >= MOST_OBJECTS) {
            return NONE;
        }
        Subject subject = subjects[objectCount];
        if (subject == null) {
            subject = new Subject();
            subjects[objectCount] = subject;
        }
        subject.begin(kind);
        rowBuilt = false;
        objectCount++;
        return objectCount - 1;
    }

    public int call(int process, int object, int operation, int a, int b)
            throws IllegalArgumentException, IllegalStateException {
        checkProcess(process);
        Subject subject = subjectOf(object);
        if (operation < 0 || operation >= subject.operationsOfKind()) {
            throw new IllegalArgumentException("no such operation");
        }
        if (waiting[process] != NONE) {
            throw new IllegalStateException("the process waits for an operation");
        }
        if (operationCount >= MOST_OPERATIONS || subject.count >= MOST_OF_ONE_OBJECT) {
            return NONE;
        }
        int number = operationCount;
        owners[number] = object;
        places[number] = subject.count;
        earlier[number] = cameBack;
        waiting[process] = number;
        subject.addOperation(process, operation, a, b);
        rowBuilt = false;
        operationCount++;
        eventCount++;
        return number;
    }

    public void back(int process, int result) throws IllegalArgumentException, IllegalStateException {
        int number = operationOf(process);
        waiting[process] = NONE;
        cameBack |= 1L << number;
        rowBuilt = false;
        eventCount++;
        subjectOf(owners[number]).endOperation(places[number], result, eventCount);
    }

    public void lose(int process) throws IllegalArgumentException, IllegalStateException {
        // The operation stays open, so that nothing that was found out of its object changes.
        operationOf(process);
        waiting[process] = NONE;
        eventCount++;
    }

    public int clear() {
        int before = eventCount;
        Arrays.fill(waiting, NONE);
        objectCount = 0;
        operationCount = 0;
        eventCount = 0;
        cameBack = 0;
        rowBuilt = false;
        return before;
    }

    public int events() {
        return eventCount;
    }

    public int possibilities(int object) throws IllegalArgumentException {
        return learnedSubject(object).possibilityCount;
    }

    public int judge(int object) throws IllegalArgumentException {
        return learnedSubject(object).judgement;
    }

    public int judgeOwn(int object) throws IllegalArgumentException {
        Subject subject = subjectOf(object);
        subject.learnOwn(scratch);
        return subject.ownJudgement;
    }

    public long ways(int object) throws IllegalArgumentException {
        return learnedSubject(object).wayCount;
    }

    public int lasts(int object) throws IllegalArgumentException {
        return learnedSubject(object).lastCount;
    }

    public int broken(int object) throws IllegalArgumentException {
        Subject subject = subjectOf(object);
        subject.learnBreak(scratch);
        return subject.brokenAt;
    }

    public int linear() {
        int answer = 1;
        for (int object = 0; object < objectCount; object++) {
            Subject subject = subjectOf(object);
            subject.learn(scratch);
            if (subject.judgement == 0) {
                return 0;
            }
            if (subject.judgement == MANY) {
                answer = MANY;
            }
        }
        return answer;
    }

    public int length() throws IllegalStateException {
        checkLinear(linear());
        buildRow();
        return rowLength;
    }

    public int row(int i) throws IllegalStateException, IndexOutOfBoundsException {
        checkLinear(linear());
        buildRow();
        checkPlace(i);
        return rowNumbers[i];
    }

    public int result(int i) throws IllegalStateException, IndexOutOfBoundsException {
        checkLinear(linear());
        buildRow();
        checkPlace(i);
        return rowResults[i];
    }

    private void checkLinear(int answer) throws IllegalStateException {
        if (answer != 1) {
            throw new IllegalStateException("the history is not linear");
        }
    }

    private void checkPlace(int i) throws IndexOutOfBoundsException {
        if (i < 0 || i >= rowLength) {
            throw new IndexOutOfBoundsException("no such place in the row");
        }
    }

    private void checkProcess(int process) throws IllegalArgumentException {
        if (process < 0 || process >= MOST_PROCESSES) {
            throw new IllegalArgumentException("no such process");
        }
    }

    private int operationOf(int process) throws IllegalArgumentException, IllegalStateException {
        checkProcess(process);
        if (waiting[process] == NONE) {
            throw new IllegalStateException("the process waits for no operation");
        }
        return waiting[process];
    }

    private Subject subjectOf(int object) throws IllegalArgumentException {
        if (object < 0 || object >= objectCount || subjects[object] == null) {
            throw new IllegalArgumentException("no such object");
        }
        return subjects[object];
    }

    private Subject learnedSubject(int object) throws IllegalArgumentException {
        Subject subject = subjectOf(object);
        subject.learn(scratch);
        return subject;
    }

    /**
     * Takes the least operation that fits at each place. It fits already if its own object can
     * still come to an end behind it: ways of several objects that keep to what is before what
     * can always be merged into one row that keeps to it, too.
     */
    private void buildRow() {
        if (rowBuilt) {
            return;
        }
        for (int object = 0; object < objectCount; object++) {
            Subject subject = subjectOf(object);
            subject.space.markHopeful(subject);
            reached[object] = 0;
        }
        long placed = 0;
        for (rowLength = 0; rowLength < operationCount && !allAtEnds(); rowLength++) {
            int number = placeNext(placed);
            if (number == NONE) {
                break;
            }
            placed |= 1L << number;
        }
        rowBuilt = true;
    }

    private boolean allAtEnds() {
        for (int object = 0; object < objectCount; object++) {
            if (!subjectOf(object).space.isEnd(reached[object])) {
                return false;
            }
        }
        return true;
    }

    private int placeNext(long placed) {
        for (int number = 0; number < operationCount; number++) {
            boolean isPlaced = (placed >>> number & 1) != 0;
            if (isPlaced || (earlier[number] & ~placed) != 0) {
                continue;
            }
            int object = owners[number];
            Subject subject = subjectOf(object);
            int next = subject.space.target(subject, reached[object], places[number]);
            if (next != NONE && subject.space.hopeful[next]) {
                reached[object] = next;
                rowNumbers[rowLength] = number;
                rowResults[rowLength] = subject.space.state.result;
                return number;
            }
        }
        return NONE;
    }

    /** One operation as it was seen. The sets in it have a bit for each place in its object. */
    private static final class Operation {
        int process;
        int code;
        int a;
        int b;
        /** The first place whose number is the same: equal numbers are told by equal names. */
        int name;
        int result;
        int earlier;
        int ownEarlier;
    }

    /** An object that was used: its operations, and what has been found out of them. */
    private static final class Subject {
        final Operation[] operations = new Operation[MOST_OF_ONE_OBJECT];
        final Space space = new Space();
        /** What there was behind each coming back, as no other event can break an object. */
        final int[] backEvents = new int[MOST_OF_ONE_OBJECT];
        final int[] backCounts = new int[MOST_OF_ONE_OBJECT];
        final int[] backSets = new int[MOST_OF_ONE_OBJECT];
        int kind;
        int count;
        int backs;
        int returned;
        boolean learned;
        int possibilityCount;
        int judgement;
        long wayCount;
        int lastCount;
        boolean ownLearned;
        int ownJudgement;
        int backsLearned;
        int brokenAt;

        Subject() {
            for (int place = 0; place < MOST_OF_ONE_OBJECT; place++) {
                operations[place] = new Operation();
            }
        }

        void begin(int newKind) {
            kind = newKind;
            count = 0;
            backs = 0;
            returned = 0;
            backsLearned = 0;
            brokenAt = NONE;
            forget();
        }

        void forget() {
            learned = false;
            ownLearned = false;
        }

        int operationsOfKind() {
            return kind == REGISTER ? OPERATIONS_OF_REGISTER : OPERATIONS_OF_OTHERS;
        }

        void addOperation(int process, int code, int a, int b) {
            if (count >= MOST_OF_ONE_OBJECT) {
                return;
            }
            Operation operation = operations[count];
            operation.process = process;
            operation.code = code;
            operation.a = a;
            operation.b = b;
            operation.result = 0;
            operation.earlier = returned;
            operation.ownEarlier = placesOf(process);
            operation.name = nameOf(numberOf(operation));
            count++;
            forget();
        }

        int placesOf(int process) {
            int set = 0;
            for (int place = 0; place < count; place++) {
                if (operations[place].process == process) {
                    set |= 1 << place;
                }
            }
            return set;
        }

        int nameOf(int number) {
            for (int place = 0; place < count; place++) {
                if (numberOf(operations[place]) == number) {
                    return place;
                }
            }
            return count;
        }

        /** The number that an object of this kind may come to hold by the operation. */
        int numberOf(Operation operation) {
            return kind == MAP ? operation.b : operation.a;
        }

        void endOperation(int place, int result, int event) {
            if (place < 0 || place >= count || backs >= MOST_OF_ONE_OBJECT) {
                return;
            }
            operations[place].result = result;
            returned |= 1 << place;
            backEvents[backs] = event;
            backCounts[backs] = count;
            backSets[backs] = returned;
            backs++;
            forget();
        }

        void learn(Space scratch) {
            if (learned) {
                return;
            }
            learned = true;
            if (space.explore(this, count, returned, false)) {
                possibilityCount = space.table.count;
                wayCount = space.waysToEnds();
                lastCount = space.statesAtEnds(scratch.table);
                judgement = wayCount > 0 ? 1 : 0;
            } else {
                possibilityCount = MANY;
                wayCount = MANY;
                lastCount = MANY;
                judgement = MANY;
            }
        }

        void learnOwn(Space scratch) {
            if (ownLearned) {
                return;
            }
            ownLearned = true;
            if (scratch.explore(this, count, returned, true)) {
                ownJudgement = scratch.waysToEnds() > 0 ? 1 : 0;
            } else {
                ownJudgement = MANY;
            }
        }

        /** What there was behind an earlier event never changes, so it is looked at once. */
        void learnBreak(Space scratch) {
            learn(scratch);
            // A way can be cut off behind what had come back at an event, so that an object that
            // is linear now has been so behind every event.
            int from = judgement == 1 ? backs : backsLearned;
            for (int i = from; i < backs && brokenAt == NONE; i++) {
                boolean few = scratch.explore(this, backCounts[i], backSets[i], false);
                if (few && scratch.waysToEnds() == 0) {
                    brokenAt = backEvents[i];
                }
            }
            backsLearned = backs;
        }
    }

    /**
     * A state that operations change. Equal states have equal words and sizes: a register's word
     * is its value; queues, stacks and heaps have four bits for the name of each number, in their
     * order, and heaps in that of the numbers; sets have a bit for each name; maps have five bits
     * for each key, the highest of them telling that there is a value.
     */
    private static final class State {
        private static final int READ = 0, WRITE = 1, SWAP = 2, COMPARE = 3;
        private static final int PUT = 0, TAKE = 1;
        private static final int INSERT = 0, REMOVE = 1;
        private static final int GET = 1;
        private static final int NAME_BITS = 4, NAME_MASK = 15;
        private static final int KEY_MASK = 7, VALUE_BITS = 5, VALUE_MASK = 31, HAS_VALUE = 16;

        long word;
        int size;
        int result;

        void become(long newWord, int newSize) {
            word = newWord;
            size = newSize;
        }

        void change(int kind, Operation operation, Operation[] all) {
            switch (kind) {
                case REGISTER:
                    result = changeRegister(operation);
                    break;
                case SET:
                    result = changeSet(operation);
                    break;
                case MAP:
                    result = changeMap(operation, all);
                    break;
                default:
                    result = changeSequence(kind, operation, all);
                    break;
            }
        }

        private int changeRegister(Operation operation) {
            int value = (int) word;
            switch (operation.code) {
                case READ:
                    return value;
                case WRITE:
                    word = operation.a;
                    return 0;
                case SWAP:
                    word = operation.a;
                    return value;
                case COMPARE:
                    if (value != operation.a) {
                        return 0;
                    }
                    word = operation.b;
                    return 1;
                default:
                    word = value + operation.a;
                    return value;
            }
        }

        private int changeSequence(int kind, Operation operation, Operation[] all) {
            switch (operation.code) {
                case PUT:
                    insertAt(kind == HEAP ? placeInHeap(operation.a, all) : size, operation.name);
                    return 0;
                case TAKE:
                    if (size <= 0) {
                        return NOTHING;
                    }
                    return all[removeAt(kind == STACK ? size - 1 : 0)].a;
                default:
                    return size;
            }
        }

        private int placeInHeap(int number, Operation[] all) {
            int place = 0;
            long names = word;
            while (place < size && all[(int) names & NAME_MASK].a < number) {
                names >>>= NAME_BITS;
                place++;
            }
            return place;
        }

        private void insertAt(int place, int name) {
            int shift = NAME_BITS * place;
            long front = word & ((1L << shift) - 1);
            // Two shifts, as one by all 64 bits would leave the word as it is.
            long behind = word >>> shift << shift << NAME_BITS;
            word = front | (long) name << shift | behind;
            size++;
        }

        private int removeAt(int place) {
            int shift = NAME_BITS * place;
            int name = (int) (word >>> shift) & NAME_MASK;
            long front = word & ((1L << shift) - 1);
            long behind = word >>> shift >>> NAME_BITS << shift;
            word = front | behind;
            size--;
            return name;
        }

        private int changeSet(Operation operation) {
            long bit = 1L << operation.name;
            boolean there = (word & bit) != 0;
            switch (operation.code) {
                case INSERT:
                    word |= bit;
                    return there ? 0 : 1;
                case REMOVE:
                    word &= ~bit;
                    return there ? 1 : 0;
                default:
                    return there ? 1 : 0;
            }
        }

        private int changeMap(Operation operation, Operation[] all) {
            int shift = VALUE_BITS * (operation.a & KEY_MASK);
            int held = (int) (word >>> shift) & VALUE_MASK;
            if (operation.code != GET) {
                word &= ~((long) VALUE_MASK << shift);
            }
            if (operation.code == PUT && operation.b != NOTHING) {
                word |= (long) (HAS_VALUE | operation.name) << shift;
            }
            return (held & HAS_VALUE) == 0 ? NOTHING : all[held & NAME_MASK].b;
        }
    }

    /** Pairs of a key and a word, each of them once, with numbers in the order of their coming. */
    private static final class Table {
        private static final int CHAINS_BITS = 10;
        private static final long SPREAD = 0x9E3779B97F4A7C15L, SPREAD_KEYS = 0xC2B2AE3D27D4EB4FL;

        final int[] keys = new int[MOST_POSSIBILITIES];
        final long[] words = new long[MOST_POSSIBILITIES];
        final int[] chains = new int[1 << CHAINS_BITS];
        final int[] links = new int[MOST_POSSIBILITIES];
        int count;

        void makeEmpty() {
            count = 0;
            Arrays.fill(chains, NONE);
        }

        int find(int key, long word) {
            return findIn(chainOf(key, word), key, word);
        }

        /** The pair's number, a new one if need be; NONE when there is no more room. */
        int keep(int key, long word) {
            int chain = chainOf(key, word);
            int known = findIn(chain, key, word);
            if (known != NONE || count >= MOST_POSSIBILITIES) {
                return known;
            }
            keys[count] = key;
            words[count] = word;
            links[count] = chains[chain];
            chains[chain] = count;
            count++;
            return count - 1;
        }

        private int chainOf(int key, long word) {
            return (int) ((word * SPREAD + key * SPREAD_KEYS) >>> (64 - CHAINS_BITS));
        }

        private int findIn(int chain, int key, long word) {
            int at = chains[chain];
            for (int left = count; left > 0 && at >= 0; left--) {
                if (keys[at] == key && words[at] == word) {
                    return at;
                }
                at = links[at];
            }
            return NONE;
        }
    }

    /**
     * The possibilities of an object, in the order in which they are come upon: one with fewer
     * operations done has a lower number. The key of each in the table has the set of those that
     * are done and, above it, the size of the state.
     */
    private static final class Space {
        private static final int DONE_MASK = 65535, SIZE_SHIFT = 16;

        final Table table = new Table();
        final State state = new State();
        final long[] ways = new long[MOST_POSSIBILITIES];
        /** Those from which an end can be reached. */
        final boolean[] hopeful = new boolean[MOST_POSSIBILITIES];
        boolean hopeMarked;
        int count;
        int returned;
        boolean own;

        /** Answers false, and leaves the rest, when there are too many. */
        boolean explore(Subject subject, int newCount, int newReturned, boolean newOwn) {
            count = newCount;
            returned = newReturned;
            own = newOwn;
            hopeMarked = false;
            table.makeEmpty();
            table.keep(0, 0);
            ways[0] = 1;
            for (int from = 0; from < MOST_POSSIBILITIES && from < table.count; from++) {
                for (int place = 0; place < count; place++) {
                    if (!step(subject, from, place)) {
                        continue;
                    }
                    int known = table.count;
                    int to = table.keep(keyBehind(from, place), state.word);
                    if (to == NONE) {
                        return false;
                    }
                    ways[to] = to == known ? ways[from] : ways[to] + ways[from];
                }
            }
            return true;
        }

        /** Whether the operation can be done next; if so, the state is the one behind it. */
        private boolean step(Subject subject, int from, int place) {
            int done = table.keys[from] & DONE_MASK;
            Operation operation = subject.operations[place];
            int needed = own ? operation.ownEarlier : operation.earlier;
            if ((done >>> place & 1) != 0 || (needed & ~done) != 0) {
                return false;
            }
            state.become(table.words[from], table.keys[from] >>> SIZE_SHIFT);
            state.change(subject.kind, operation, subject.operations);
            boolean open = (returned >>> place & 1) == 0;
            return open || state.result == operation.result;
        }

        private int keyBehind(int from, int place) {
            return table.keys[from] & DONE_MASK | 1 << place | state.size << SIZE_SHIFT;
        }

        /** The possibility behind the operation, NONE if it can't be done next. */
        int target(Subject subject, int from, int place) {
            if (!step(subject, from, place)) {
                return NONE;
            }
            return table.find(keyBehind(from, place), state.word);
        }

        boolean isEnd(int possibility) {
            return (returned & ~table.keys[possibility]) == 0;
        }

        long waysToEnds() {
            long sum = 0;
            for (int i = 0; i < table.count; i++) {
                if (isEnd(i)) {
                    sum += ways[i];
                }
            }
            return sum;
        }

        int statesAtEnds(Table states) {
            states.makeEmpty();
            for (int i = 0; i < table.count; i++) {
                if (isEnd(i)) {
                    states.keep(table.keys[i] >>> SIZE_SHIFT, table.words[i]);
                }
            }
            return states.count;
        }

        /** Goes backwards, as each step leads to a possibility with a higher number. */
        void markHopeful(Subject subject) {
            if (hopeMarked) {
                return;
            }
            hopeMarked = true;
            for (int from = table.count - 1; from >= 0; from--) {
                boolean hope = isEnd(from);
                for (int place = 0; place < count && !hope; place++) {
                    int to = target(subject, from, place);
                    hope = to != NONE && hopeful[to];
                }
                hopeful[from] = hope;
            }
        }
    }
}
