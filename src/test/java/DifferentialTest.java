import java.util.ArrayList;
import java.util.List;
import java.util.Random;

/**
 * Random runs of calls on a Macroloom and on the Model beside it: each answer, and all that can be asked behind
 * each call, has to be the same. The seeds are fixed, so each time the same calls are made. An object is used for
 * 512 calls at most; then another one is made, brought to the same state by the calls that have changed something.
 */
public final class DifferentialTest {
    private static final int NONE = -1;
    private static final int MOST_CALLS = 512;
    private static int wrong = 0;
    private static long calls = 0;

    private Macroloom real;
    private Model model;
    private Random random;
    private long seed;
    private List<String> told;
    private List<Call> changes;
    private int used;
    /** An answer was wrong, or the changes alone are nearly as many calls as an object has. */
    private boolean stopped;

    interface Call {
        int on(boolean isReal);
    }

    public static void main(String[] args) {
        for (int kind = -1; kind <= 40 && wrong < 5; kind++) {
            makeAll(kind, 0);
            makeAll(kind, 3);
        }
        long first = args.length > 0 ? Long.parseLong(args[0]) : 1;
        long count = args.length > 1 ? Long.parseLong(args[1]) : 2500;
        for (long seed = first; seed < first + count && wrong < 5; seed++) {
            new DifferentialTest().play(seed);
        }
        System.out.println("DifferentialTest: " + calls + " calls compared, " + wrong + " runs wrong");
        if (args.length > 2) {
            reach();
        }
        System.exit(wrong > 0 ? 1 : 0);
    }

    /** Makes a node of a kind with all that a, b and c may be, each on a new object that has some nodes. */
    private static void makeAll(int kind, int nodes) {
        int[] given = {Integer.MIN_VALUE, -10000, -9999, -2, -1, 0, 2, 3, 4, 5, 6, 7, 8, 119, 9999, 10000};
        for (int a : given) {
            for (int b : given) {
                for (int c : given) {
                    DifferentialTest test = new DifferentialTest();
                    test.fresh();
                    for (int made = 0; made < nodes; made++) {
                        test.number(made, made);
                    }
                    test.make(kind, a, b, c);
                }
            }
        }
    }

    private static void reach() {
        String[] ends = {"number", "fun", "gen", "thrown", "UNBOUND", "ZERO", "TYPE", "RANGE", "DEPTH", "ASTRAY", "-7", "break", "next", "return", "out", ""};
        for (int kind = 0; kind < 40; kind++) {
            StringBuilder line = new StringBuilder("kind " + kind + ":");
            for (int end = 0; end < 16; end++) {
                line.append(' ').append(ends[end]).append(' ').append(Model.REACHED[kind][end]);
            }
            System.out.println(line);
        }
    }

    private int answer(Call call, boolean isReal) {
        try {
            return call.on(isReal);
        } catch (IndexOutOfBoundsException e) {
            return e.getClass() == IndexOutOfBoundsException.class ? 1000001 : 1000009;
        } catch (IllegalArgumentException e) {
            return e.getClass() == IllegalArgumentException.class ? 1000002 : 1000009;
        } catch (IllegalStateException e) {
            return e.getClass() == IllegalStateException.class ? 1000003 : 1000009;
        }
    }

    private int both(String name, Call call) {
        if (stopped) {
            return 1000004;
        }
        if (used >= MOST_CALLS) {
            renew();
        }
        calls++;
        used++;
        int due = answer(call, false);
        int got = answer(call, true);
        told.add(name + " -> " + got);
        if (!name.startsWith("?") && due < 1000000) {
            changes.add(call);
            stopped = changes.size() > MOST_CALLS - 20;
        }
        if (got != due) {
            stopped = true;
            wrong++;
            System.out.println("seed " + seed + ": " + name + " answered " + got + ", due is " + due);
            if (wrong <= 2) {
                for (String line : told) {
                    if (!line.startsWith("?")) {
                        System.out.println("    " + line);
                    }
                }
            }
        }
        return due;
    }

    private void fresh() {
        random = new Random(seed);
        real = new Macroloom();
        model = new Model();
        told = new ArrayList<>();
        changes = new ArrayList<>();
        used = 0;
    }

    private void renew() {
        real = new Macroloom();
        for (Call change : changes) {
            answer(change, true);
        }
        used = changes.size();
    }

    private void play(long seed) {
        this.seed = seed;
        fresh();
        askAll();
        int rounds = 3 + random.nextInt(4);
        for (int round = 0; round < rounds && !stopped; round++) {
            settings();
            if (chance(60)) {
                defineSome();
            }
            List<Integer> programs = new ArrayList<>();
            int wanted = 1 + random.nextInt(3);
            for (int i = 0; i < wanted; i++) {
                programs.add(program());
            }
            for (int i = 0; i < wanted && !stopped; i++) {
                use(programs.get(random.nextInt(wanted)));
            }
        }
        askAll();
    }

    // ---- calls

    private int pick(int low, int high) {
        return low + random.nextInt(high - low + 1);
    }

    private boolean chance(int percent) {
        return random.nextInt(100) < percent;
    }

    private int make(int kind, int a, int b, int c) {
        return both("node(" + kind + ", " + a + ", " + b + ", " + c + ")", isReal -> isReal ? real.node(kind, a, b, c) : model.node(kind, a, b, c));
    }

    private int someNode() {
        int count = model.nodes.size();
        return chance(6) || count == 0 ? pick(-2, count + 1) : pick(Math.max(0, count - 25), count - 1);
    }

    private void settings() {
        int wanted = random.nextInt(7);
        for (int i = 0; i < wanted; i++) {
            setting();
        }
    }

    private void setting() {
        switch (random.nextInt(7)) {
            case 0: {
                int option = pick(-1, 4), value = chance(10) ? pick(-2, 2) * 5000 : pick(-3, 12);
                both("setOption(" + option + ", " + value + ")", isReal -> isReal ? real.setOption(option, value) : model.setOption(option, value));
                break;
            }
            case 1: {
                int budget = chance(10) ? pick(-1, 1) * 601 : chance(40) ? pick(1, 60) : pick(100, 600);
                both("setBudget(" + budget + ")", isReal -> isReal ? real.setBudget(budget) : model.setBudget(budget));
                break;
            }
            case 2: {
                int slot = chance(90) ? pick(0, 2) : pick(-1, 6), parameters = chance(95) ? pick(0, 2) : pick(-1, 3);
                int body = someNode(), standard = parameters == 2 && chance(70) ? someNode() : chance(5) ? pick(-2, 3) : NONE;
                both("define(" + slot + ", " + parameters + ", " + body + ", " + standard + ")",
                    isReal -> isReal ? real.define(slot, parameters, body, standard) : model.define(slot, parameters, body, standard));
                break;
            }
            case 3: {
                int node = someNode();
                both("size(" + node + ")", isReal -> isReal ? real.size(node) : model.size(node));
                break;
            }
            case 4: {
                int node = someNode();
                boolean on = chance(60);
                both("breakAt(" + node + ", " + on + ")", isReal -> (isReal ? real.breakAt(node, on) : model.breakAt(node, on)) ? 1 : 0);
                break;
            }
            default: {
                int times = chance(4) ? 41 : 1 + random.nextInt(3);
                for (int i = 0; i < times; i++) {
                    int buffer = chance(95) ? pick(0, 1) : pick(-1, 2), letter = chance(95) ? pick(0, 25) : pick(-1, 26);
                    both("write(" + buffer + ", " + letter + ")", isReal -> isReal ? real.write(buffer, letter) : model.write(buffer, letter));
                }
                break;
            }
        }
    }

    /** Functions of slots that are made for it: bodies and standards with the names of the parameters. */
    private void defineSome() {
        int some = 1 + random.nextInt(3);
        for (int i = 0; i < some && !stopped; i++) {
            left = 4 + random.nextInt(10);
            int slot = pick(0, 2), parameters = chance(60) ? pick(1, 2) : pick(0, 2);
            int made = part(pick(1, 4));
            int body = chance(40) ? made : then(made, fallen(make(Macroloom.STAY, four(), named(pick(0, 1)), NONE)));
            int standard = parameters == 2 && chance(75) ? part(pick(1, 3)) : NONE;
            both("define(" + slot + ", " + parameters + ", " + body + ", " + standard + ")",
                isReal -> isReal ? real.define(slot, parameters, body, standard) : model.define(slot, parameters, body, standard));
        }
    }

    private void use(int program) {
        int node = chance(3) ? someNode() : program;
        if (chance(30)) {
            both("tried(" + node + ")", isReal -> isReal ? real.tried(node) : model.tried(node));
            askAll();
        }
        if (chance(20)) {
            both("triedSteps(" + node + ")", isReal -> isReal ? real.triedSteps(node) : model.triedSteps(node));
            askAll();
        }
        if (chance(50)) {
            both("run(" + node + ")", isReal -> isReal ? real.run(node) : model.run(node));
        } else {
            stepThrough(node);
        }
        askAll();
        if (chance(5)) {
            both("step(1)", isReal -> isReal ? real.step(1) : model.step(1));
            both("giveUp()", isReal -> isReal ? real.giveUp() : model.giveUp());
        }
    }

    private void stepThrough(int node) {
        both("start(" + node + ")", isReal -> {
            if (isReal) {
                real.start(node);
            } else {
                model.start(node);
            }
            return 0;
        });
        askAll();
        int stride = chance(40) ? 1 : chance(50) ? 5 : 100;
        int patience = chance(20) ? pick(1, 10) : 80;
        for (int turn = 0; turn < patience && model.next() != NONE && !stopped; turn++) {
            if (chance(10)) {
                refused();
            }
            int steps = chance(3) ? pick(-1, 1) * 601 : pick(1, stride);
            both("step(" + steps + ")", isReal -> isReal ? real.step(steps) : model.step(steps));
            askAll();
        }
        if (chance(50)) {
            both("giveUp()", isReal -> isReal ? real.giveUp() : model.giveUp());
        } else {
            for (int turn = 0; turn < 700 && model.next() != NONE && !stopped; turn++) {
                both("step(600)", isReal -> isReal ? real.step(600) : model.step(600));
                askAll();
            }
        }
    }

    /** Calls that a run which is stepped refuses, and some that it does not. */
    private void refused() {
        int node = someNode();
        switch (random.nextInt(6)) {
            case 0:
                both("run(" + node + ")", isReal -> isReal ? real.run(node) : model.run(node));
                break;
            case 1:
                both("tried(" + node + ")", isReal -> isReal ? real.tried(node) : model.tried(node));
                break;
            case 2:
                both("triedSteps(" + node + ")", isReal -> isReal ? real.triedSteps(node) : model.triedSteps(node));
                break;
            case 3:
                both("start(" + node + ")", isReal -> {
                    if (isReal) {
                        real.start(node);
                    } else {
                        model.start(node);
                    }
                    return 0;
                });
                break;
            case 4:
                make(Macroloom.NUMBER, pick(-9, 9), NONE, NONE);
                break;
            default:
                setting();
                break;
        }
    }

    // ---- all that can be asked

    private void ask(String name, Call call) {
        both("?" + name, call);
    }

    private void askAll() {
        ask("next()", isReal -> isReal ? real.next() : model.next());
        ask("active()", isReal -> isReal ? real.active() : model.active());
        ask("outcome()", isReal -> isReal ? real.outcome() : model.outcome());
        ask("steps()", isReal -> isReal ? real.steps() : model.steps());
        ask("cause()", isReal -> isReal ? real.cause() : model.cause());
        ask("traced()", isReal -> isReal ? real.traced() : model.traced());
        ask("buffer()", isReal -> isReal ? real.buffer() : model.buffer());
        ask("hook()", isReal -> isReal ? real.hook() : model.hook());
        for (int i = -1; i <= model.traced(); i++) {
            int place = i;
            ask("traceAt(" + place + ")", isReal -> isReal ? real.traceAt(place) : model.traceAt(place));
        }
        for (int i = -1; i <= 8; i++) {
            int name = i;
            ask("look(" + name + ")", isReal -> isReal ? real.look(name) : model.look(name));
        }
        for (int i = -1; i <= 4; i++) {
            int which = i;
            ask("option(" + which + ")", isReal -> isReal ? real.option(which) : model.option(which));
            ask("register(" + which + ")", isReal -> isReal ? real.register(which) : model.register(which));
        }
        for (int i = -1; i <= 6; i++) {
            int slot = i;
            ask("body(" + slot + ")", isReal -> isReal ? real.body(slot) : model.body(slot));
        }
        for (int i = -1; i <= 2; i++) {
            askText(i);
        }
    }

    private void askText(int buffer) {
        ask("length(" + buffer + ")", isReal -> isReal ? real.length(buffer) : model.length(buffer));
        ask("activeCursor(" + buffer + ")", isReal -> isReal ? real.activeCursor(buffer) : model.activeCursor(buffer));
        for (int i = -1; i <= 4; i++) {
            int cursor = i;
            ask("cursor(" + buffer + ", " + cursor + ")", isReal -> isReal ? real.cursor(buffer, cursor) : model.cursor(buffer, cursor));
        }
        int length = buffer == 0 || buffer == 1 ? model.length(buffer) : 0;
        for (int i = -1; i <= length; i++) {
            int place = i;
            ask("letter(" + buffer + ", " + place + ")", isReal -> isReal ? real.letter(buffer, place) : model.letter(buffer, place));
        }
    }

    // ---- programs

    private int left;

    /** A random program of nodes made new, most of them sensible. */
    private int program() {
        left = 8 + random.nextInt(45);
        int made = part(pick(3, 9));
        if (chance(70)) {
            made = then(prelude(), made);
        }
        int tries = random.nextInt(3);
        for (int i = 0; i < tries; i++) {
            made = make(Macroloom.THEN, made, part(pick(2, 6)), NONE);
            if (made > 1000) {
                made = Math.max(0, model.nodes.size() - 1);
            }
        }
        return made;
    }

    /** Cells for the names that are used most, so that not all ends by UNBOUND. */
    private int prelude() {
        int first = let(0, number(0, 9));
        int second = let(1, chance(60) ? number(-3, 3) : fallen(make(Macroloom.FUNCTION, name(), part(3), NONE)));
        int third = let(2, chance(40) ? number(0, 3) : fallen(make(Macroloom.GENERATOR, part(4), NONE, NONE)));
        return then(first, then(second, third));
    }

    private int number(int low, int high) {
        return fallen(make(Macroloom.NUMBER, pick(low, high), NONE, NONE));
    }

    /** A node that could not be made is another one instead. */
    private int fallen(int made) {
        if (made < 1000000) {
            return made;
        }
        int count = model.nodes.size();
        return count == 0 ? 0 : random.nextInt(count);
    }

    private int name() {
        return pick(0, chance(80) ? 2 : 7);
    }

    private int four() {
        return chance(80) ? pick(0, 1) : pick(0, 3);
    }

    private int slot() {
        return chance(85) ? pick(0, 2) : pick(0, 5);
    }

    private int leaf() {
        switch (random.nextInt(12)) {
            case 0: case 1: case 2:
                return fallen(make(Macroloom.NAME, name(), NONE, NONE));
            case 3:
                return fallen(make(Macroloom.GET, four(), NONE, NONE));
            case 4:
                return fallen(make(pick(Macroloom.HERE, Macroloom.LENGTH), NONE, NONE, NONE));
            case 5:
                return fallen(make(Macroloom.ERASE, NONE, NONE, NONE));
            case 6:
                return fallen(make(Macroloom.NEXT, four(), NONE, NONE));
            case 7:
                return fallen(make(Macroloom.CALL, slot(), NONE, NONE));
            case 8:
                return number(-9999, 9999);
            default:
                return number(-2, 5);
        }
    }

    private int part(int depth) {
        left--;
        if (depth <= 0 || left <= 0 || model.nodes.size() > 112) {
            return chance(20) && model.nodes.size() > 0 ? fallen(someNode()) : leaf();
        }
        if (chance(3)) {
            return odd();
        }
        if (chance(12)) {
            return reckoning(depth - 1);
        }
        int made = chance(25) ? template(depth - 1) : plain(depth - 1);
        return chance(18) ? fallen(make(Macroloom.TRY, name(), made, leaf())) : made;
    }

    /** What is reckoned of numbers alone. */
    private int reckoning(int depth) {
        if (depth <= 0 || left <= 0) {
            return chance(90) ? number(-9, 9) : number(-9999, 9999);
        }
        left--;
        int one = reckoning(depth - 2), two = reckoning(depth - 2);
        return fallen(make(pick(Macroloom.SUM, Macroloom.SAME), one, two, NONE));
    }

    /** Any kind, with anything. */
    private int odd() {
        return fallen(make(pick(-1, 40), pick(-2, model.nodes.size()), pick(-2, model.nodes.size()), pick(-2, 4)));
    }

    private int plain(int depth) {
        switch (random.nextInt(24)) {
            case 0: return fallen(make(Macroloom.LET, name(), part(depth), NONE));
            case 1: return fallen(make(Macroloom.PUT, name(), part(depth), NONE));
            case 2: return fallen(make(pick(Macroloom.SUM, Macroloom.SAME), part(depth), part(depth), NONE));
            case 3: return fallen(make(Macroloom.IF, part(depth), part(depth), part(depth)));
            case 4: case 5: return fallen(make(Macroloom.THEN, part(depth), part(depth), NONE));
            case 6: return fallen(make(Macroloom.SCOPE, part(depth), NONE, NONE));
            case 7: return fallen(make(Macroloom.LOOP, four(), part(depth), NONE));
            case 8: return fallen(make(Macroloom.BREAK, four(), part(depth), NONE));
            case 9: return fallen(make(Macroloom.FUNCTION, name(), part(depth), NONE));
            case 10: return fallen(make(Macroloom.APPLY, part(depth), part(depth), NONE));
            case 11: {
                int first = part(depth);
                return fallen(make(Macroloom.CALL, slot(), first, chance(40) ? part(depth) : NONE));
            }
            case 12: return fallen(make(Macroloom.RETURN, part(depth), NONE, NONE));
            case 13: return fallen(make(Macroloom.TRY, name(), part(depth), part(depth)));
            case 14: return fallen(make(Macroloom.FINALLY, part(depth), part(depth), NONE));
            case 15: return fallen(make(Macroloom.THROW, part(depth), NONE, NONE));
            case 16: return fallen(make(Macroloom.GENERATOR, part(depth), NONE, NONE));
            case 17: return fallen(make(Macroloom.YIELD, part(depth), NONE, NONE));
            case 18: return fallen(make(Macroloom.ASK, part(depth), NONE, NONE));
            case 19: return fallen(make(Macroloom.OPTION, four(), part(depth), part(depth)));
            case 20: return fallen(make(Macroloom.STAY, four(), part(depth), NONE));
            case 21: return fallen(make(pick(0, 1) == 0 ? Macroloom.INSERT : Macroloom.MOVE, part(depth), NONE, NONE));
            case 22: return fallen(make(chance(40) ? Macroloom.CURSOR : chance(80) ? Macroloom.EACH : Macroloom.BUFFER, part(depth), NONE, NONE));
            default: return chance(50) ? fallen(make(Macroloom.RELOAD, slot(), part(depth), NONE)) : fallen(make(Macroloom.HOOK, chance(80) ? slot() : NONE, NONE, NONE));
        }
    }

    private int then(int first, int second) {
        return fallen(make(Macroloom.THEN, first, second, NONE));
    }

    private int named(int name) {
        return fallen(make(Macroloom.NAME, name, NONE, NONE));
    }

    private int let(int name, int value) {
        return fallen(make(Macroloom.LET, name, value, NONE));
    }

    private int insert() {
        return fallen(make(Macroloom.INSERT, number(0, 25), NONE, NONE));
    }

    /** What seldom comes about by chance: loops with a count, generators that are asked, cursors, hooks. */
    private int template(int depth) {
        switch (random.nextInt(14)) {
            case 0:
                return countedLoop(depth);
            case 1: case 2:
                return askedGenerator(depth);
            case 3:
                return manyCursors(depth);
            case 4:
                return insert();
            case 5: {
                int hook = fallen(make(Macroloom.HOOK, slot(), NONE, NONE));
                return then(hook, then(insert(), part(depth)));
            }
            case 6:
                return then(fallen(make(Macroloom.BUFFER, number(0, 1), NONE, NONE)), part(depth));
            case 7: {
                int name = name();
                int function = fallen(make(Macroloom.FUNCTION, name(), part(depth), NONE));
                return then(let(name, function), fallen(make(Macroloom.APPLY, named(name), part(depth), NONE)));
            }
            case 8: {
                int function = fallen(make(Macroloom.FUNCTION, name(), part(depth), NONE));
                return fallen(make(Macroloom.APPLY, function, part(depth), NONE));
            }
            case 9:
                return fallen(make(Macroloom.TRY, name(), part(depth), chance(50) ? named(name()) : part(depth)));
            case 10: {
                int first = fallen(make(Macroloom.THROW, number(-8, 8), NONE, NONE));
                int second = chance(50) ? fallen(make(Macroloom.THROW, number(-8, 8), NONE, NONE)) : part(depth);
                return fallen(make(Macroloom.FINALLY, chance(50) ? first : part(depth), second, NONE));
            }
            case 11: {
                int body = fallen(make(Macroloom.RETURN, part(depth), NONE, NONE));
                return fallen(make(Macroloom.APPLY, fallen(make(Macroloom.FUNCTION, name(), body, NONE)), part(depth), NONE));
            }
            case 12: {
                int move = fallen(make(Macroloom.MOVE, number(0, 4), NONE, NONE));
                return then(move, chance(50) ? fallen(make(Macroloom.ERASE, NONE, NONE, NONE)) : insert());
            }
            default:
                return deepCalls();
        }
    }

    private int countedLoop(int depth) {
        int name = pick(3, 7), label = four();
        int start = let(name, number(0, 1));
        int up = fallen(make(Macroloom.PUT, name, fallen(make(Macroloom.SUM, named(name), number(1, 1), NONE)), NONE));
        int again = fallen(make(Macroloom.BELOW, named(name), number(2, 6), NONE));
        int body = part(depth);
        int stop = fallen(make(Macroloom.BREAK, label, named(name), NONE));
        int test = fallen(make(Macroloom.IF, again, body, stop));
        return then(start, fallen(make(Macroloom.LOOP, label, then(up, test), NONE)));
    }

    private int askedGenerator(int depth) {
        int name = name();
        int first = fallen(make(Macroloom.YIELD, part(depth), NONE, NONE));
        int body = first;
        if (chance(60)) {
            int inner = chance(50) ? then(first, part(depth)) : then(part(depth), first);
            int last = chance(50) ? insert() : part(depth);
            body = chance(50) ? fallen(make(Macroloom.FINALLY, inner, last, NONE)) : then(inner, last);
        }
        if (chance(30)) {
            body = fallen(make(Macroloom.LOOP, four(), body, NONE));
        }
        int generator = fallen(make(Macroloom.GENERATOR, body, NONE, NONE));
        int ask = fallen(make(Macroloom.ASK, named(name), NONE, NONE));
        int twice = chance(50) ? then(ask, ask) : then(ask, then(part(depth), ask));
        return then(let(name, generator), chance(70) ? twice : ask);
    }

    private int manyCursors(int depth) {
        int made = insert();
        int more = pick(1, 4);
        for (int i = 0; i < more; i++) {
            made = then(made, chance(50) ? insert() : fallen(make(Macroloom.CURSOR, number(0, 3), NONE, NONE)));
        }
        int done = chance(30) ? fallen(make(Macroloom.ERASE, NONE, NONE, NONE)) : chance(40) ? insert() : part(depth);
        if (chance(40)) {
            int here = fallen(make(Macroloom.SAME, fallen(make(Macroloom.HERE, NONE, NONE, NONE)), number(0, 3), NONE));
            int move = then(fallen(make(Macroloom.MOVE, number(0, 4), NONE, NONE)), done);
            done = fallen(make(Macroloom.IF, here, move, number(0, 1)));
        }
        return then(made, fallen(make(Macroloom.EACH, done, NONE, NONE)));
    }

    /** A function that calls itself by its name, which is 12 calls deep at most. */
    private int deepCalls() {
        int name = pick(3, 7);
        int self = fallen(make(Macroloom.APPLY, named(name), part(1), NONE));
        int body = chance(50) ? self : then(part(1), self);
        int function = fallen(make(Macroloom.FUNCTION, name(), body, NONE));
        int outside = chance(50) ? fallen(make(Macroloom.TRY, name(), self, part(1))) : self;
        return then(let(name, function), outside);
    }
}
