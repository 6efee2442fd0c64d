import java.util.Arrays;

/**
 * A language for the commands of an editor. Programs are built node by node; each node is translated to
 * code when it is made, and one machine performs that code for run, tried and step alike.
 *
 * <p>Values are held as they are told by an outcome: a number as it is, a function as 20000 and its number,
 * a generator as 30000 and its number; an error is told as 50000 and its number.
 */
public final class Macroloom {
    public static final int NONE = -1;
    public static final int NUMBER = 0, NAME = 1, LET = 2, PUT = 3, SUM = 4, MINUS = 5, TIMES = 6, OVER = 7, BELOW = 8, SAME = 9, IF = 10, THEN = 11, SCOPE = 12, LOOP = 13, BREAK = 14, NEXT = 15, FUNCTION = 16, APPLY = 17, CALL = 18, RETURN = 19, TRY = 20, FINALLY = 21, THROW = 22, GENERATOR = 23, YIELD = 24, ASK = 25, OPTION = 26, GET = 27, STAY = 28, INSERT = 29, ERASE = 30, MOVE = 31, HERE = 32, LETTER = 33, LENGTH = 34, CURSOR = 35, EACH = 36, BUFFER = 37, RELOAD = 38, HOOK = 39;
    public static final int UNBOUND = -1, ZERO = -2, TYPE = -3, RANGE = -4, DEPTH = -5, ASTRAY = -6, BUDGET = -7;

    private static final int KINDS = 40;
    private static final int MOST_NODES = 120, MOST_SIZE = 150, LARGEST = 9999;
    private static final int NAMES = 8, FOUR = 4, OPTIONS = 4, REGISTERS = 4, SLOTS = 6;
    private static final int BUFFERS = 2, LETTERS = 40, ALPHABET = 26, CURSORS = 4;
    private static final int FIRST_BUDGET = 300, MOST_STEPS = 600, MOST_CALLS = 12;
    private static final int FUNCTIONS = 20000, GENERATORS = 30000, ERRORS = 50000;
    /** What is in a cell that is not there, and what look() tells of it. */
    private static final int ABSENT = 49999;
    private static final int NO_CAUSE = ERRORS;

    /** A frame for each step, and one for the node that rests ahead of its step. */
    private static final int MOST_FRAMES = 601;
    /** The scope of the run, one for each part in a new scope, and one for each call. */
    private static final int MOST_SCOPES = 1210;
    /** No node has more than 9 instructions; the one at place 0 stands ahead of all. */
    private static final int MOST_CODE = 1081;
    /** Far above what can be performed between two steps. */
    private static final int MOST_TURNS = 1000000;

    /**
     * What a, b and c of each kind are, by a letter each: p a part, o a part or NONE, v a number, n a name,
     * q one of four (a label, an option, a register), s a slot, h a slot or NONE, - nothing.
     */
    private static final String SHAPES = "v--n--np-np-pp-pp-pp-pp-pp-pp-ppppp-p--qp-qp-q--np-pp-soop--npppp-p--p--p--p--qppq--qp-p-----p-----------p--p--p--sp-h--";

    /* Instructions beside those that bear the number of a kind. */
    private static final int END = 40, DO = 41, DO_INNER = 42, DO_HELD = 43, KEEP = 44, JUMP = 45, UNLESS = 46, GUARD = 47, CATCH = 48, CAUGHT = 49, HOLD = 50, REVIVE = 51, BLAME = 52, RESTORE = 53, NEXT_CURSOR = 54, COUNT = 55, LEAVE_EACH = 56, PARAMETER = 57, ENTER = 58, RECALL = 59, UNHOOK = 60;

    /* How a node can end. */
    private static final int BY_VALUE = 0, BY_ERROR = 1, BY_BREAK = 2, BY_NEXT = 3, BY_RETURN = 4;

    /* What a frame is done as: a part of another one, or a body (GENERATOR_BODY and the generator's number). */
    private static final int PART = 0, RUN_BODY = 1, STANDARD_BODY = 2, FUNCTION_BODY = 3, GENERATOR_BODY = 4;

    /* The states of a generator. */
    private static final int FRESH = 0, RESTING = 1, ASKED = 2, CLOSING = 3, SPENT = 4;

    private final Program program;
    private final World world;
    private final Report last;
    /** Told by tried() and triedSteps() alone. */
    private final Report draft;
    private int budget;
    /** Made by the first run only, so that an object that never runs stays small. */
    private Machine machine;

    public Macroloom() {
        program = new Program();
        world = new World();
        last = new Report();
        draft = new Report();
        budget = FIRST_BUDGET;
    }

    public int node(int kind, int a, int b, int c) throws IndexOutOfBoundsException, IllegalArgumentException, IllegalStateException {
        if (program.lacksPart(kind, a, b, c)) {
            throw new IndexOutOfBoundsException("no such node");
        }
        if (!program.isShaped(kind, a, b, c)) {
            throw new IllegalArgumentException("kind, a, b or c is out of its range");
        }
        if (!program.hasRoom(kind, a, b, c)) {
            throw new IllegalStateException("too many nodes, or too large a one");
        }
        return program.add(kind, a, b, c);
    }

    public int define(int slot, int parameters, int body, int standard) throws IndexOutOfBoundsException, IllegalArgumentException, IllegalStateException {
        if (!isBelow(slot, SLOTS) || !program.has(body) || (standard != NONE && !program.has(standard))) {
            throw new IndexOutOfBoundsException("no such slot or node");
        }
        if (!isBelow(parameters, 3) || (standard != NONE && parameters != 2)) {
            throw new IllegalArgumentException("parameters is out of range, or does not go with the standard");
        }
        if (isStepped()) {
            throw new IllegalStateException("a run is stepped");
        }
        int before = world.bodies.at(slot);
        world.bodies.put(slot, body);
        world.parameters.put(slot, parameters);
        world.standards.put(slot, standard);
        return before;
    }

    public int size(int node) throws IndexOutOfBoundsException {
        if (!program.has(node)) {
            throw new IndexOutOfBoundsException("no such node");
        }
        return program.sizes.at(node);
    }

    public int setOption(int option, int value) throws IndexOutOfBoundsException, IllegalArgumentException, IllegalStateException {
        if (!isBelow(option, OPTIONS)) {
            throw new IndexOutOfBoundsException("no such option");
        }
        if (!isNumber(value)) {
            throw new IllegalArgumentException("value is out of range");
        }
        if (isStepped()) {
            throw new IllegalStateException("a run is stepped");
        }
        int before = world.options.at(option);
        world.options.put(option, value);
        return before;
    }

    public int setBudget(int steps) throws IllegalArgumentException {
        if (!isAmount(steps)) {
            throw new IllegalArgumentException("steps is out of range");
        }
        int before = budget;
        budget = steps;
        return before;
    }

    public int write(int buffer, int letter) throws IndexOutOfBoundsException, IllegalArgumentException, IllegalStateException {
        if (!isBelow(buffer, BUFFERS)) {
            throw new IndexOutOfBoundsException("no such buffer");
        }
        if (!isBelow(letter, ALPHABET)) {
            throw new IllegalArgumentException("letter is out of range");
        }
        Text text = world.textOf(buffer);
        if (text.count >= LETTERS || isStepped()) {
            throw new IllegalStateException("the text is full, or a run is stepped");
        }
        text.append(letter);
        return text.count;
    }

    public int run(int node) throws IndexOutOfBoundsException, IllegalStateException {
        if (!program.has(node)) {
            throw new IndexOutOfBoundsException("no such node");
        }
        if (isStepped()) {
            throw new IllegalStateException("a run is stepped");
        }
        Machine ready = readyMachine();
        ready.open(node, budget, last);
        ready.advance(MOST_FRAMES, false);
        return last.told;
    }

    public int tried(int node) throws IndexOutOfBoundsException, IllegalStateException {
        if (!program.has(node)) {
            throw new IndexOutOfBoundsException("no such node");
        }
        if (isStepped()) {
            throw new IllegalStateException("a run is stepped");
        }
        return tryOut(node).told;
    }

    public int triedSteps(int node) throws IndexOutOfBoundsException, IllegalStateException {
        if (!program.has(node)) {
            throw new IndexOutOfBoundsException("no such node");
        }
        if (isStepped()) {
            throw new IllegalStateException("a run is stepped");
        }
        return tryOut(node).cost;
    }

    public void start(int node) throws IndexOutOfBoundsException, IllegalStateException {
        if (!program.has(node)) {
            throw new IndexOutOfBoundsException("no such node");
        }
        if (isStepped()) {
            throw new IllegalStateException("a run is stepped");
        }
        readyMachine().open(node, budget, last);
    }

    public int step(int steps) throws IllegalArgumentException, IllegalStateException {
        if (!isAmount(steps)) {
            throw new IllegalArgumentException("steps is out of range");
        }
        Machine stepped = steppedMachine();
        if (stepped == null) {
            throw new IllegalStateException("no run is stepped");
        }
        return stepped.advance(steps, true);
    }

    public int giveUp() throws IllegalStateException {
        Machine stepped = steppedMachine();
        if (stepped == null) {
            throw new IllegalStateException("no run is stepped");
        }
        return stepped.abandon();
    }

    public boolean breakAt(int node, boolean on) throws IndexOutOfBoundsException {
        if (!program.has(node)) {
            throw new IndexOutOfBoundsException("no such node");
        }
        boolean before = program.breaks.at(node) == 1;
        program.breaks.put(node, on ? 1 : 0);
        return before;
    }

    public int next() {
        Machine stepped = steppedMachine();
        return stepped == null ? NONE : stepped.waitingNode();
    }

    public int look(int name) throws IndexOutOfBoundsException, IllegalStateException {
        if (!isBelow(name, NAMES)) {
            throw new IndexOutOfBoundsException("no such name");
        }
        Machine stepped = steppedMachine();
        if (stepped == null) {
            throw new IllegalStateException("no run is stepped");
        }
        return stepped.seenByWaiting(name);
    }

    public int active() {
        Machine stepped = steppedMachine();
        return stepped == null ? 0 : stepped.calls;
    }

    public int outcome() {
        return last.told;
    }

    public int steps() {
        return last.cost;
    }

    public int cause() {
        return last.blamed;
    }

    public int traced() {
        return last.count;
    }

    public int traceAt(int place) throws IndexOutOfBoundsException {
        if (!isBelow(place, last.count)) {
            throw new IndexOutOfBoundsException("no such place");
        }
        return last.trace.at(place);
    }

    public int buffer() {
        return world.current;
    }

    public int length(int buffer) throws IndexOutOfBoundsException {
        if (!isBelow(buffer, BUFFERS)) {
            throw new IndexOutOfBoundsException("no such buffer");
        }
        return world.textOf(buffer).count;
    }

    public int letter(int buffer, int place) throws IndexOutOfBoundsException {
        if (!isBelow(buffer, BUFFERS) || !isBelow(place, world.textOf(buffer).count)) {
            throw new IndexOutOfBoundsException("no such buffer or place");
        }
        return world.textOf(buffer).letters.at(place);
    }

    public int cursor(int buffer, int cursor) throws IndexOutOfBoundsException {
        if (!isBelow(buffer, BUFFERS) || !isBelow(cursor, CURSORS)) {
            throw new IndexOutOfBoundsException("no such buffer or cursor");
        }
        return world.textOf(buffer).places.at(cursor);
    }

    public int activeCursor(int buffer) throws IndexOutOfBoundsException {
        if (!isBelow(buffer, BUFFERS)) {
            throw new IndexOutOfBoundsException("no such buffer");
        }
        return world.textOf(buffer).chosen;
    }

    public int option(int option) throws IndexOutOfBoundsException {
        if (!isBelow(option, OPTIONS)) {
            throw new IndexOutOfBoundsException("no such option");
        }
        return world.options.at(option);
    }

    public int register(int register) throws IndexOutOfBoundsException {
        if (!isBelow(register, REGISTERS)) {
            throw new IndexOutOfBoundsException("no such register");
        }
        return world.registers.at(register);
    }

    public int body(int slot) throws IndexOutOfBoundsException {
        if (!isBelow(slot, SLOTS)) {
            throw new IndexOutOfBoundsException("no such slot");
        }
        return world.bodies.at(slot);
    }

    public int hook() {
        return world.hooked;
    }

    private boolean isStepped() {
        return steppedMachine() != null;
    }

    private Machine steppedMachine() {
        return machine != null && machine.going ? machine : null;
    }

    private Machine readyMachine() {
        if (machine == null) {
            machine = new Machine(program, world, draft);
        }
        return machine;
    }

    /** Runs a node, and makes all as it was, registers too. */
    private Report tryOut(int node) {
        Machine ready = readyMachine();
        ready.open(node, budget, draft);
        ready.advance(MOST_FRAMES, false);
        world.become(ready.before);
        return draft;
    }

    private static boolean isBelow(int number, int bound) {
        return number >= 0 && number < bound;
    }

    /** Whether a value (or an argument) is a number of the language. */
    private static boolean isNumber(int value) {
        return value >= -LARGEST && value <= LARGEST;
    }

    private static boolean isAmount(int steps) {
        return steps >= 1 && steps <= MOST_STEPS;
    }

    /** A row of numbers that answers NONE where it has no place. */
    private static final class Row {
        private final int[] cells;

        Row(int length, int first) {
            cells = new int[Math.max(0, length)];
            Arrays.fill(cells, first);
        }

        int at(int place) {
            return place >= 0 && place < cells.length ? cells[place] : NONE;
        }

        void put(int place, int number) {
            if (place >= 0 && place < cells.length) {
                cells[place] = number;
            }
        }

        void become(Row other) {
            System.arraycopy(other.cells, 0, cells, 0, Math.min(cells.length, other.cells.length));
        }
    }

    /** The nodes, with what they are and where their code begins. */
    private static final class Program {
        final Row kinds = new Row(MOST_NODES, NONE);
        final Row firsts = new Row(MOST_NODES, NONE);
        final Row seconds = new Row(MOST_NODES, NONE);
        final Row sizes = new Row(MOST_NODES, 0);
        final Row breaks = new Row(MOST_NODES, 0);
        final Row entries = new Row(MOST_NODES, 0);
        final Code code = new Code();
        int count;

        boolean has(int node) {
            return isBelow(node, count);
        }

        /** A CALL without a first argument has no second one: its c is nothing then, not a part or NONE. */
        private static char shapeOf(int kind, int which, int b) {
            int place = kind * 3 + which;
            boolean isNothing = kind == CALL && which == 2 && b == NONE;
            return !isNothing && isBelow(kind, KINDS) && isBelow(place, SHAPES.length()) ? SHAPES.charAt(place) : '-';
        }

        private static int choose(int which, int a, int b, int c) {
            return which == 0 ? a : which == 1 ? b : c;
        }

        boolean lacksPart(int kind, int a, int b, int c) {
            for (int which = 0; which < 3; which++) {
                char shape = shapeOf(kind, which, b);
                int part = choose(which, a, b, c);
                if (shape == 'p' && !has(part)) {
                    return true;
                }
                if (shape == 'o' && part != NONE && !has(part)) {
                    return true;
                }
            }
            return false;
        }

        boolean isShaped(int kind, int a, int b, int c) {
            if (!isBelow(kind, KINDS)) {
                return false;
            }
            for (int which = 0; which < 3; which++) {
                if (!fits(shapeOf(kind, which, b), choose(which, a, b, c))) {
                    return false;
                }
            }
            return true;
        }

        private static boolean fits(char shape, int number) {
            if (shape == 'v') {
                return isNumber(number);
            }
            if (shape == 'n') {
                return isBelow(number, NAMES);
            }
            if (shape == 'q') {
                return isBelow(number, FOUR);
            }
            if (shape == 's') {
                return isBelow(number, SLOTS);
            }
            if (shape == 'h') {
                return number == NONE || isBelow(number, SLOTS);
            }
            return shape != '-' || number == NONE;
        }

        boolean hasRoom(int kind, int a, int b, int c) {
            return count < MOST_NODES && sizeWith(kind, a, b, c) <= MOST_SIZE;
        }

        private int sizeWith(int kind, int a, int b, int c) {
            int sum = 1;
            for (int which = 0; which < 3; which++) {
                char shape = shapeOf(kind, which, b);
                int part = choose(which, a, b, c);
                if ((shape == 'p' || shape == 'o') && kind != RELOAD && has(part)) {
                    sum += sizes.at(part);
                }
            }
            return sum;
        }

        int add(int kind, int a, int b, int c) {
            int added = count;
            kinds.put(added, kind);
            firsts.put(added, a);
            seconds.put(added, b);
            sizes.put(added, sizeWith(kind, a, b, c));
            entries.put(added, code.translate(kind, a, b, c));
            count = added + 1;
            return added;
        }
    }

    /** The instructions of all nodes, one behind the other. */
    private static final class Code {
        final Row works = new Row(MOST_CODE, END);
        final Row details = new Row(MOST_CODE, 0);
        /** Place 0 has an END: there a node lands that has nothing more to do when a part leaves. */
        private int used = 1;

        private void emit(int work, int detail) {
            works.put(used, work);
            details.put(used, detail);
            used++;
        }

        int translate(int kind, int a, int b, int c) {
            int entry = used;
            switch (kind) {
                case LET:
                case PUT:
                case BREAK:
                case STAY:
                    emit(DO, b);
                    emit(kind, a);
                    break;
                case RETURN:
                case THROW:
                case ASK:
                case MOVE:
                case CURSOR:
                case BUFFER:
                    emit(DO, a);
                    emit(kind, NONE);
                    break;
                case YIELD:
                    emit(DO, a);
                    emit(YIELD, NONE);
                    emit(NUMBER, 0);
                    break;
                case RELOAD:
                    emit(NUMBER, b);
                    emit(RELOAD, a);
                    break;
                case CALL:
                    translateCall(a, b, c);
                    break;
                case INSERT:
                    translateInsert(a);
                    break;
                default:
                    translateParts(kind, a, b, c);
                    break;
            }
            emit(END, NONE);
            return entry;
        }

        private void translateParts(int kind, int a, int b, int c) {
            switch (kind) {
                case SUM:
                case MINUS:
                case TIMES:
                case OVER:
                case BELOW:
                case SAME:
                case APPLY:
                    emit(DO, a);
                    emit(KEEP, NONE);
                    emit(DO, b);
                    emit(kind, NONE);
                    break;
                case THEN:
                    emit(DO, a);
                    emit(DO, b);
                    break;
                case SCOPE:
                    emit(DO_INNER, a);
                    break;
                case IF:
                    translateIf(a, b, c);
                    break;
                case LOOP:
                    translateLoop(b);
                    break;
                case TRY:
                    translateTry(a, b, c);
                    break;
                case FINALLY:
                    translateFinally(a, b);
                    break;
                case OPTION:
                    translateOption(a, b, c);
                    break;
                case EACH:
                    translateEach(a);
                    break;
                default:
                    emit(kind, a);
                    break;
            }
        }

        private void translateIf(int a, int b, int c) {
            int entry = used;
            emit(DO, a);
            emit(UNLESS, entry + 4);
            emit(DO, b);
            emit(END, NONE);
            emit(DO, c);
        }

        private void translateLoop(int b) {
            int entry = used;
            emit(GUARD, entry + 3);
            emit(DO_INNER, b);
            emit(JUMP, entry);
            emit(CAUGHT, entry);
        }

        private void translateTry(int a, int b, int c) {
            int entry = used;
            emit(GUARD, entry + 3);
            emit(DO, b);
            emit(END, NONE);
            emit(CATCH, a);
            emit(DO_HELD, c);
        }

        private void translateFinally(int a, int b) {
            int entry = used;
            emit(GUARD, entry + 2);
            emit(DO, a);
            emit(HOLD, NONE);
            emit(GUARD, entry + 7);
            emit(DO, b);
            emit(REVIVE, NONE);
            emit(END, NONE);
            emit(BLAME, NONE);
        }

        private void translateOption(int a, int b, int c) {
            int entry = used;
            emit(DO, b);
            emit(GUARD, entry + 4);
            emit(OPTION, a);
            emit(DO, c);
            emit(RESTORE, a);
        }

        private void translateEach(int a) {
            int entry = used;
            emit(GUARD, entry + 6);
            emit(EACH, NONE);
            emit(NEXT_CURSOR, entry + 5);
            emit(DO, a);
            emit(JUMP, entry + 2);
            emit(COUNT, NONE);
            emit(LEAVE_EACH, NONE);
        }

        private void translateCall(int a, int b, int c) {
            int arguments = b == NONE ? 0 : c == NONE ? 1 : 2;
            if (arguments > 0) {
                emit(DO, b);
            }
            if (arguments > 1) {
                emit(KEEP, NONE);
                emit(DO, c);
            }
            emit(CALL, arguments * SLOTS + a);
            emit(PARAMETER, NONE);
            emit(ENTER, NONE);
        }

        private void translateInsert(int a) {
            int entry = used;
            emit(DO, a);
            emit(INSERT, entry + 5);
            emit(PARAMETER, NONE);
            emit(ENTER, NONE);
            emit(RECALL, NONE);
            emit(UNHOOK, NONE);
        }
    }

    /** A text with its cursors. */
    private static final class Text {
        final Row letters = new Row(LETTERS, 0);
        final Row places = new Row(CURSORS, NONE);
        int count;
        int chosen;

        Text() {
            places.put(0, 0);
        }

        void become(Text other) {
            letters.become(other.letters);
            places.become(other.places);
            count = other.count;
            chosen = other.chosen;
        }

        void append(int letter) {
            letters.put(count, letter);
            count++;
        }

        boolean hasPlace(int place) {
            return place >= 0 && place <= count;
        }

        int activePlace() {
            return places.at(chosen);
        }

        void insertLetter(int letter) {
            int here = activePlace();
            for (int place = count; place > here; place--) {
                letters.put(place, letters.at(place - 1));
            }
            letters.put(here, letter);
            count++;
            for (int cursor = 0; cursor < CURSORS; cursor++) {
                int there = places.at(cursor);
                if (cursor == chosen || there > here) {
                    places.put(cursor, there + 1);
                }
            }
        }

        /** The letter ahead of the active cursor has to be there. */
        int eraseLetter() {
            int here = activePlace();
            int erased = letters.at(here - 1);
            for (int place = here; place < count; place++) {
                letters.put(place - 1, letters.at(place));
            }
            count--;
            for (int cursor = 0; cursor < CURSORS; cursor++) {
                int there = places.at(cursor);
                int now = there >= here ? there - 1 : there;
                places.put(cursor, cursor != chosen && now == here - 1 ? NONE : now);
            }
            return erased;
        }

        int freeCursor() {
            for (int cursor = 0; cursor < CURSORS; cursor++) {
                if (places.at(cursor) == NONE) {
                    return cursor;
                }
            }
            return NONE;
        }

        /** The cursors by rising places and numbers, each as its number and 1 in 3 bits, the first one lowest. */
        int packedOrder() {
            int packed = 0;
            int shift = 0;
            for (int place = 0; place <= count; place++) {
                for (int cursor = 0; cursor < CURSORS; cursor++) {
                    if (places.at(cursor) == place) {
                        packed |= (cursor + 1) << shift;
                        shift += 3;
                    }
                }
            }
            return packed;
        }

        void chooseAgain(int cursor) {
            if (places.at(cursor) != NONE) {
                chosen = cursor;
                return;
            }
            for (int lowest = CURSORS - 1; lowest >= 0; lowest--) {
                if (places.at(lowest) != NONE) {
                    chosen = lowest;
                }
            }
        }
    }

    /** The texts, and all else that is there between runs. */
    private static final class World {
        private final Text zeroth = new Text();
        private final Text first = new Text();
        final Row options = new Row(OPTIONS, 0);
        final Row registers = new Row(REGISTERS, 0);
        final Row bodies = new Row(SLOTS, NONE);
        /** No run changes these two, so they need not be undone. */
        final Row parameters = new Row(SLOTS, 0);
        final Row standards = new Row(SLOTS, NONE);
        int current;
        int hooked = NONE;

        Text textOf(int buffer) {
            return buffer == 0 ? zeroth : first;
        }

        /** Becomes as another one, registers too. */
        void become(World other) {
            becomeButRegisters(other);
            registers.become(other.registers);
        }

        void becomeButRegisters(World other) {
            zeroth.become(other.zeroth);
            first.become(other.first);
            options.become(other.options);
            bodies.become(other.bodies);
            current = other.current;
            hooked = other.hooked;
        }
    }

    /** What is told of a run that has ended. */
    private static final class Report {
        int told;
        int cost;
        int blamed = NO_CAUSE;
        int count;
        final Row trace = new Row(MOST_CALLS + 1, NONE);

        void push(int node) {
            trace.put(count, node);
            count++;
        }
    }

    /** Scopes, each with a cell for every name, ABSENT where it has none. */
    private static final class Scopes {
        private final Row outers = new Row(MOST_SCOPES, NONE);
        private final Row cells = new Row(MOST_SCOPES * NAMES, ABSENT);
        private int count;

        void clear() {
            count = 0;
        }

        int open(int outer) {
            int opened = count;
            count++;
            outers.put(opened, outer);
            for (int name = 0; name < NAMES; name++) {
                cells.put(opened * NAMES + name, ABSENT);
            }
            return opened;
        }

        void bind(int scope, int name, int value) {
            cells.put(scope * NAMES + name, value);
        }

        /** The innermost scope that has a cell for a name; NONE if there is none. */
        int holderOf(int scope, int name) {
            int holder = scope;
            for (int turn = 0; turn < MOST_SCOPES && holder != NONE; turn++) {
                if (cells.at(holder * NAMES + name) != ABSENT) {
                    return holder;
                }
                holder = outers.at(holder);
            }
            return NONE;
        }

        /** What is in the cell of a name; ABSENT if there is none. */
        int valueOf(int scope, int name) {
            int holder = holderOf(scope, name);
            return holder == NONE ? ABSENT : cells.at(holder * NAMES + name);
        }
    }

    /** The nodes that have begun, by their steps; kept, held (0 at first) and spare are theirs to use. */
    private static final class Frames {
        final Row nodes = new Row(MOST_FRAMES, NONE);
        final Row ups = new Row(MOST_FRAMES, NONE);
        final Row scopes = new Row(MOST_FRAMES, NONE);
        final Row bodies = new Row(MOST_FRAMES, PART);
        final Row places = new Row(MOST_FRAMES, 0);
        /** Where the frame goes on if a part of it ends otherwise than with a value. */
        final Row landings = new Row(MOST_FRAMES, 0);
        /** The latest call that was active when this frame called, or failed. */
        final Row arounds = new Row(MOST_FRAMES, NONE);
        final Row kept = new Row(MOST_FRAMES, 0);
        final Row held = new Row(MOST_FRAMES, 0);
        final Row spare = new Row(MOST_FRAMES, 0);
        final Row causes = new Row(MOST_FRAMES, NO_CAUSE);

        void land(int frame) {
            places.put(frame, landings.at(frame));
            landings.put(frame, 0);
        }

        /** The frame of the body in which a frame is done. */
        int rootOf(int frame) {
            int root = frame;
            for (int turn = 0; turn < MOST_FRAMES && bodies.at(root) == PART; turn++) {
                root = ups.at(root);
            }
            return root;
        }
    }

    /** The functions and generators of a run, told by the frames that made them. */
    private static final class Makings {
        private final Row functions = new Row(MOST_FRAMES, NONE);
        private final Row generators = new Row(MOST_FRAMES, NONE);
        final Row states = new Row(MOST_FRAMES, SPENT);
        final Row roots = new Row(MOST_FRAMES, NONE);
        final Row rests = new Row(MOST_FRAMES, NONE);
        private int functionCount;
        private int generatorCount;

        void clear() {
            functionCount = 0;
            generatorCount = 0;
        }

        int makeFunction(int frame) {
            functions.put(functionCount, frame);
            functionCount++;
            return FUNCTIONS + functionCount - 1;
        }

        int makeGenerator(int frame) {
            generators.put(generatorCount, frame);
            states.put(generatorCount, FRESH);
            generatorCount++;
            return GENERATORS + generatorCount - 1;
        }

        boolean isFunction(int value) {
            return value >= FUNCTIONS && value - FUNCTIONS < functionCount;
        }

        boolean isGenerator(int value) {
            return value >= GENERATORS && value - GENERATORS < generatorCount;
        }

        int functionMaker(int value) {
            return functions.at(value - FUNCTIONS);
        }

        int generatorMaker(int generator) {
            return generators.at(generator);
        }

        int lowestResting() {
            for (int generator = 0; generator < generatorCount; generator++) {
                if (states.at(generator) == RESTING) {
                    return generator;
                }
            }
            return NONE;
        }
    }

    /** Performs the code of one run at a time. */
    private static final class Machine {
        private final Program program;
        private final World world;
        final World before = new World();
        private final Frames frames = new Frames();
        private final Scopes scopes = new Scopes();
        private final Makings makings = new Makings();
        private Report report;
        /** Whether a run has begun and not ended. */
        boolean going;
        int calls;
        private int budget;
        private int steps;
        private int current;
        /** Whether the current frame has not begun yet. */
        private boolean waiting;
        private int lastCall;
        private boolean hooking;
        /** How the latest node ended, and with which value or error. */
        private int ending;
        private int value;
        private int cause;
        /** The frame that an error came about by, or that BREAK or NEXT goes to. */
        private int detail;
        /** The value of what is run, while generators are being closed. */
        private int result;

        Machine(Program program, World world, Report report) {
            this.program = program;
            this.world = world;
            this.report = report;
        }

        void open(int node, int mostSteps, Report whereTold) {
            before.become(world);
            scopes.clear();
            makings.clear();
            report = whereTold;
            budget = mostSteps;
            steps = 0;
            calls = 0;
            lastCall = NONE;
            hooking = false;
            ending = BY_VALUE;
            value = 0;
            cause = NO_CAUSE;
            detail = NONE;
            result = 0;
            current = NONE;
            going = true;
            begin(node, scopes.open(NONE), RUN_BODY);
        }

        /** Lets nodes begin, as many at most; answers how many have begun. */
        int advance(int most, boolean heedsBreaks) {
            int first = steps;
            for (int turn = 0; turn < MOST_TURNS && going; turn++) {
                if (waiting) {
                    boolean stops = heedsBreaks && steps > first && program.breaks.at(waitingNode()) == 1;
                    if (stops || steps - first >= most) {
                        return steps - first;
                    }
                    letBegin();
                    continue;
                }
                int place = frames.places.at(current);
                int work = program.code.works.at(place);
                int about = program.code.details.at(place);
                frames.places.put(current, place + 1);
                // The instructions are numbered so that those of one group stand together.
                if (work >= CATCH) {
                    performBehind(work, about);
                } else if (work >= END) {
                    performFlow(work, about);
                } else if (work >= INSERT) {
                    performEditing(work, about);
                } else if (work >= LOOP) {
                    performControl(work, about);
                } else {
                    performReckoning(work, about);
                }
            }
            if (!going) {
                settle();
            }
            return steps - first;
        }

        int abandon() {
            going = false;
            world.becomeButRegisters(before);
            return steps;
        }

        int waitingNode() {
            return frames.nodes.at(current);
        }

        int seenByWaiting(int name) {
            return scopes.valueOf(frames.scopes.at(current), name);
        }

        private void letBegin() {
            if (steps < budget) {
                steps++;
                waiting = false;
            } else {
                fail(BUDGET);
                going = false;
            }
        }

        private void settle() {
            boolean failed = ending == BY_ERROR;
            report.told = failed ? ERRORS + value : result;
            report.cost = steps;
            report.blamed = failed ? cause : NO_CAUSE;
            report.count = 0;
            if (failed) {
                report.push(frames.nodes.at(detail));
                int call = frames.arounds.at(detail);
                for (int turn = 0; turn < MOST_CALLS && call != NONE; turn++) {
                    report.push(frames.nodes.at(call));
                    call = frames.arounds.at(call);
                }
                world.becomeButRegisters(before);
            }
        }

        /** Has a node wait ahead of its step, as a part of the current one, or as a body that it calls. */
        private void begin(int node, int scope, int body) {
            int frame = steps;
            frames.nodes.put(frame, node);
            frames.ups.put(frame, current);
            frames.scopes.put(frame, scope);
            frames.bodies.put(frame, body);
            frames.places.put(frame, program.entries.at(node));
            frames.landings.put(frame, 0);
            frames.arounds.put(frame, NONE);
            frames.held.put(frame, 0);
            current = frame;
            waiting = true;
        }

        /** The current frame comes to an error; it goes on where it would if a part had ended so. */
        private void fail(int error) {
            ending = BY_ERROR;
            value = error;
            cause = NO_CAUSE;
            detail = current;
            frames.arounds.put(current, lastCall);
            frames.places.put(current, frames.landings.at(current));
            frames.landings.put(current, 0);
        }

        private void jump(int place) {
            frames.places.put(current, place);
        }

        private void performFlow(int work, int about) {
            int scope = frames.scopes.at(current);
            switch (work) {
                case END:
                    leave();
                    break;
                case DO:
                    begin(about, scope, PART);
                    break;
                case DO_INNER:
                    begin(about, scopes.open(scope), PART);
                    break;
                case DO_HELD:
                    begin(about, frames.held.at(current), PART);
                    break;
                case KEEP:
                    frames.kept.put(current, value);
                    break;
                case JUMP:
                    jump(about);
                    break;
                case UNLESS:
                    if (value == 0) {
                        jump(about);
                    }
                    break;
                case GUARD:
                    frames.landings.put(current, about);
                    break;
                default:
                    break;
            }
        }

        /** What a node does behind a part of it; these keep to how the part ended. */
        private void performBehind(int work, int about) {
            switch (work) {
                case CATCH:
                    catchError(about);
                    break;
                case CAUGHT:
                    catchLeaving(about);
                    break;
                case HOLD:
                    hold();
                    break;
                case REVIVE:
                    revive();
                    break;
                case BLAME:
                    if (ending == BY_ERROR && frames.held.at(current) == BY_ERROR) {
                        cause = frames.kept.at(current);
                    }
                    break;
                case RESTORE:
                    world.options.put(about, frames.kept.at(current));
                    break;
                case NEXT_CURSOR:
                    chooseNextCursor(about);
                    break;
                case COUNT:
                    value = frames.held.at(current);
                    break;
                case LEAVE_EACH:
                    leaveEach();
                    break;
                case PARAMETER:
                    scopes.bind(frames.held.at(current), 1, value);
                    break;
                case ENTER:
                    enter(world.bodies.at(frames.spare.at(current)));
                    break;
                case RECALL:
                    value = frames.kept.at(current);
                    break;
                case UNHOOK:
                    hooking = false;
                    break;
                default:
                    break;
            }
        }

        private void performReckoning(int work, int about) {
            int scope = frames.scopes.at(current);
            switch (work) {
                case NUMBER:
                    value = about;
                    break;
                case NAME:
                    value = scopes.valueOf(scope, about);
                    if (value == ABSENT) {
                        fail(UNBOUND);
                    }
                    break;
                case LET:
                    scopes.bind(scope, about, value);
                    break;
                case PUT:
                    putInto(scopes.holderOf(scope, about), about);
                    break;
                case SAME:
                    value = frames.kept.at(current) == value ? 1 : 0;
                    break;
                default:
                    reckon(work, frames.kept.at(current), value);
                    break;
            }
        }

        private void putInto(int holder, int name) {
            if (holder == NONE) {
                fail(UNBOUND);
            } else {
                scopes.bind(holder, name, value);
            }
        }

        private void reckon(int work, int left, int right) {
            if (!isNumber(left) || !isNumber(right)) {
                fail(TYPE);
                return;
            }
            if (work == OVER && right == 0) {
                fail(ZERO);
                return;
            }
            int reckoned = 0;
            if (work == SUM) {
                reckoned = left + right;
            } else if (work == MINUS) {
                reckoned = left - right;
            } else if (work == TIMES) {
                reckoned = left * right;
            } else if (work == OVER && right != 0) {
                reckoned = left / right;
            } else if (work == BELOW) {
                reckoned = left < right ? 1 : 0;
            }
            value = Math.max(-LARGEST, Math.min(LARGEST, reckoned));
        }

        private void performControl(int work, int about) {
            switch (work) {
                case BREAK:
                    leaveFor(loopWith(about), BY_BREAK);
                    break;
                case NEXT:
                    leaveFor(loopWith(about), BY_NEXT);
                    break;
                case RETURN:
                    leaveFor(bodyToReturn(), BY_RETURN);
                    break;
                case FUNCTION:
                    value = makings.makeFunction(current);
                    break;
                case APPLY:
                    apply();
                    break;
                case CALL:
                    invoke(about % SLOTS, about / SLOTS);
                    break;
                case THROW:
                    fail(isNumber(value) ? value : TYPE);
                    break;
                case GENERATOR:
                    value = makings.makeGenerator(current);
                    break;
                case YIELD:
                    rest();
                    break;
                case ASK:
                    ask();
                    break;
                case OPTION:
                    frames.kept.put(current, world.options.at(about));
                    frames.held.put(current, 1);
                    world.options.put(about, value);
                    break;
                case GET:
                    value = world.options.at(about);
                    break;
                case STAY:
                    stay(about);
                    break;
                default:
                    break;
            }
        }

        private void performEditing(int work, int about) {
            Text text = world.textOf(world.current);
            switch (work) {
                case INSERT:
                    insert(text, about);
                    break;
                case ERASE:
                    if (text.activePlace() < 1) {
                        fail(RANGE);
                    } else {
                        value = text.eraseLetter();
                    }
                    break;
                case MOVE:
                    move(text);
                    break;
                case HERE:
                    value = text.activePlace();
                    break;
                case LETTER:
                    value = text.activePlace() < text.count ? text.letters.at(text.activePlace()) : -1;
                    break;
                case LENGTH:
                    value = text.count;
                    break;
                case CURSOR:
                    addCursor(text);
                    break;
                case EACH:
                    frames.kept.put(current, text.packedOrder());
                    frames.spare.put(current, text.chosen * BUFFERS + world.current);
                    break;
                case BUFFER:
                    choose();
                    break;
                case RELOAD:
                    reload(about);
                    break;
                case HOOK:
                    world.hooked = about;
                    value = 0;
                    break;
                default:
                    break;
            }
        }

        /** The current frame has ended; the one above goes on, or the run ends. */
        private void leave() {
            int up = frames.ups.at(current);
            int body = frames.bodies.at(current);
            if (body == FUNCTION_BODY) {
                endCall(up);
                ending = ending == BY_RETURN ? BY_VALUE : ending;
            } else if (body >= GENERATOR_BODY) {
                endGenerator(body - GENERATOR_BODY, up);
            } else if (body == RUN_BODY) {
                result = value;
            }
            current = up;
            if (up == NONE) {
                closeNext();
            } else if (ending != BY_VALUE) {
                frames.land(up);
            }
        }

        private void endCall(int caller) {
            lastCall = frames.arounds.at(caller);
            calls--;
        }

        private void endGenerator(int generator, int asker) {
            makings.states.put(generator, SPENT);
            if (asker != NONE) {
                endCall(asker);
            }
            if (ending != BY_ERROR) {
                ending = BY_VALUE;
                value = -1;
            }
        }

        /** Behind what is run: ends the run by an error, or has the next generator closed. */
        private void closeNext() {
            int generator = ending == BY_ERROR ? NONE : makings.lowestResting();
            if (generator == NONE) {
                going = false;
                return;
            }
            makings.states.put(generator, CLOSING);
            frames.ups.put(makings.roots.at(generator), NONE);
            current = makings.rests.at(generator);
            ending = BY_RETURN;
            frames.land(current);
        }

        private void catchError(int name) {
            if (ending != BY_ERROR) {
                jump(0);
                return;
            }
            int inner = scopes.open(frames.scopes.at(current));
            scopes.bind(inner, name, value);
            frames.held.put(current, inner);
            ending = BY_VALUE;
        }

        /** LOOP, behind a part that left: it is ended, done again, or left too. */
        private void catchLeaving(int again) {
            boolean meant = detail == current;
            if (meant && ending == BY_BREAK) {
                ending = BY_VALUE;
            } else if (meant && ending == BY_NEXT) {
                ending = BY_VALUE;
                jump(again);
            }
        }

        /** FINALLY keeps how its a ended until its b has ended. */
        private void hold() {
            frames.held.put(current, ending);
            frames.kept.put(current, value);
            frames.spare.put(current, detail);
            frames.causes.put(current, cause);
            ending = BY_VALUE;
        }

        private void revive() {
            ending = frames.held.at(current);
            value = frames.kept.at(current);
            detail = frames.spare.at(current);
            cause = frames.causes.at(current);
        }

        /** The frame of the innermost LOOP with a label within the body; NONE if there is none. */
        private int loopWith(int label) {
            int frame = current;
            for (int turn = 0; turn < MOST_FRAMES && frame != NONE; turn++) {
                int node = frames.nodes.at(frame);
                if (program.kinds.at(node) == LOOP && program.firsts.at(node) == label) {
                    return frame;
                }
                frame = frames.bodies.at(frame) == PART ? frames.ups.at(frame) : NONE;
            }
            return NONE;
        }

        /** The frame of the body that RETURN ends; NONE if it is what is run, or a standard. */
        private int bodyToReturn() {
            int root = frames.rootOf(current);
            return frames.bodies.at(root) >= FUNCTION_BODY ? root : NONE;
        }

        private void leaveFor(int target, int how) {
            if (target == NONE) {
                fail(ASTRAY);
                return;
            }
            ending = how;
            detail = target;
        }

        private void apply() {
            int function = frames.kept.at(current);
            if (!makings.isFunction(function)) {
                fail(TYPE);
                return;
            }
            int maker = makings.functionMaker(function);
            int node = frames.nodes.at(maker);
            int inner = scopes.open(frames.scopes.at(maker));
            scopes.bind(inner, program.firsts.at(node), value);
            frames.held.put(current, inner);
            enter(program.seconds.at(node));
        }

        /** Calls a slot with kept and the value, or with the value alone; PARAMETER and ENTER go on. */
        private void invoke(int slot, int arguments) {
            int parameters = world.parameters.at(slot);
            if (world.bodies.at(slot) == NONE) {
                fail(UNBOUND);
                return;
            }
            if (arguments > parameters) {
                fail(TYPE);
                return;
            }
            int inner = scopes.open(NONE);
            frames.held.put(current, inner);
            frames.spare.put(current, slot);
            if (parameters > 0) {
                int only = arguments == 1 ? value : 0;
                scopes.bind(inner, 0, arguments == 2 ? frames.kept.at(current) : only);
            }
            int standard = world.standards.at(slot);
            if (parameters == 2 && arguments < 2 && standard != NONE) {
                begin(standard, inner, STANDARD_BODY);
                return;
            }
            value = arguments == 2 ? value : 0;
            if (parameters < 2) {
                jump(frames.places.at(current) + 1);
            }
        }

        /** Calls a body in the scope that is held. */
        private void enter(int body) {
            if (calls >= MOST_CALLS) {
                fail(DEPTH);
                return;
            }
            noteCall();
            begin(body, frames.held.at(current), FUNCTION_BODY);
        }

        private void noteCall() {
            frames.arounds.put(current, lastCall);
            lastCall = current;
            calls++;
        }

        private void ask() {
            int generator = value - GENERATORS;
            int state = makings.isGenerator(value) ? makings.states.at(generator) : ASKED;
            if (state == ASKED || state == CLOSING) {
                fail(TYPE);
            } else if (state == SPENT) {
                value = -1;
            } else if (calls >= MOST_CALLS) {
                fail(DEPTH);
            } else {
                makings.states.put(generator, ASKED);
                if (state == RESTING) {
                    goOn(generator);
                } else {
                    askFirst(generator);
                }
            }
        }

        private void askFirst(int generator) {
            int maker = makings.generatorMaker(generator);
            noteCall();
            begin(program.firsts.at(frames.nodes.at(maker)), scopes.open(frames.scopes.at(maker)), GENERATOR_BODY + generator);
            makings.roots.put(generator, current);
        }

        private void goOn(int generator) {
            noteCall();
            frames.ups.put(makings.roots.at(generator), current);
            current = makings.rests.at(generator);
        }

        /** YIELD: the body rests, and the ASK that called it goes on. */
        private void rest() {
            int root = frames.rootOf(current);
            int generator = frames.bodies.at(root) - GENERATOR_BODY;
            if (generator < 0 || makings.states.at(generator) != ASKED || isBarred()) {
                fail(ASTRAY);
                return;
            }
            int asker = frames.ups.at(root);
            makings.states.put(generator, RESTING);
            makings.rests.put(generator, current);
            endCall(asker);
            current = asker;
        }

        /** Whether the current frame lies in a part whose end must not be put off. */
        private boolean isBarred() {
            int frame = current;
            for (int turn = 0; turn < MOST_FRAMES && frame != NONE; turn++) {
                int kind = program.kinds.at(frames.nodes.at(frame));
                if (kind == EACH || (kind == OPTION && frames.held.at(frame) == 1)) {
                    return true;
                }
                frame = frames.bodies.at(frame) == PART ? frames.ups.at(frame) : NONE;
            }
            return false;
        }

        private void stay(int register) {
            if (isNumber(value)) {
                world.registers.put(register, value);
            } else {
                fail(TYPE);
            }
        }

        private void insert(Text text, int landing) {
            if (!isNumber(value)) {
                fail(TYPE);
                return;
            }
            if (!isBelow(value, ALPHABET) || text.count >= LETTERS) {
                fail(RANGE);
                return;
            }
            text.insertLetter(value);
            if (world.hooked == NONE || hooking) {
                jump(0);
                return;
            }
            hooking = true;
            frames.kept.put(current, value);
            frames.landings.put(current, landing);
            invoke(world.hooked, 1);
        }

        private void move(Text text) {
            if (!isNumber(value)) {
                fail(TYPE);
            } else if (!text.hasPlace(value)) {
                fail(RANGE);
            } else {
                text.places.put(text.chosen, value);
            }
        }

        private void addCursor(Text text) {
            int free = text.freeCursor();
            if (!isNumber(value)) {
                fail(TYPE);
            } else if (!text.hasPlace(value) || free == NONE) {
                fail(RANGE);
            } else {
                text.places.put(free, value);
                value = free;
            }
        }

        private void choose() {
            if (!isNumber(value)) {
                fail(TYPE);
            } else if (!isBelow(value, BUFFERS)) {
                fail(RANGE);
            } else {
                world.current = value;
            }
        }

        private void reload(int slot) {
            if (world.bodies.at(slot) == NONE) {
                fail(UNBOUND);
                return;
            }
            world.bodies.put(slot, value);
            value = 0;
        }

        private void chooseNextCursor(int behind) {
            int spare = frames.spare.at(current);
            Text text = world.textOf(spare % BUFFERS);
            int left = frames.kept.at(current);
            for (int turn = 0; turn < CURSORS && left > 0; turn++) {
                int cursor = (left & 7) - 1;
                left >>= 3;
                if (text.places.at(cursor) != NONE) {
                    frames.kept.put(current, left);
                    frames.held.put(current, frames.held.at(current) + 1);
                    text.chosen = cursor;
                    return;
                }
            }
            jump(behind);
        }

        private void leaveEach() {
            int spare = frames.spare.at(current);
            world.textOf(spare % BUFFERS).chooseAgain(spare / BUFFERS);
        }
    }
}
