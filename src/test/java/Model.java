import java.util.ArrayDeque;
import java.util.ArrayList;
import java.util.Arrays;
import java.util.List;
import java.util.concurrent.SynchronousQueue;

/**
 * The document told once more, by plain recursion, with values that are objects and generators that are threads:
 * slow, and as close to the words as can be. For tests alone: Macroloom has to answer as this does.
 *
 * <p>A run that is stepped is run as a whole when it starts, with all noted at which it would rest; step() goes
 * along these notes.
 */
final class Model {
    static final int NONE = -1, RUN = 0, STANDARD = 1, FUNCTION_BODY = 2, GENERATOR_BODY = 3;

    static final class Text {
        List<Integer> letters = new ArrayList<>();
        int[] cursors = {0, NONE, NONE, NONE};
        int active = 0;

        Text copy() {
            Text copy = new Text();
            copy.letters = new ArrayList<>(letters);
            copy.cursors = cursors.clone();
            copy.active = active;
            return copy;
        }
    }

    static final class World {
        Text[] texts = {new Text(), new Text()};
        int current = 0;
        Object[] options = {0, 0, 0, 0};
        int[] registers = new int[4];
        int[] bodies = {NONE, NONE, NONE, NONE, NONE, NONE};
        int[] parameters = new int[6];
        int[] standards = {NONE, NONE, NONE, NONE, NONE, NONE};
        int hook = NONE;

        World copy() {
            World copy = new World();
            copy.texts = new Text[] {texts[0].copy(), texts[1].copy()};
            copy.current = current;
            copy.options = options.clone();
            copy.registers = registers.clone();
            copy.bodies = bodies.clone();
            copy.parameters = parameters.clone();
            copy.standards = standards.clone();
            copy.hook = hook;
            return copy;
        }

        Text text() {
            return texts[current];
        }
    }

    static final class Env {
        final Env outer;
        final Object[] cells = new Object[8];

        Env(Env outer) {
            this.outer = outer;
        }

        Env holder(int name) {
            for (Env env = this; env != null; env = env.outer) {
                if (env.cells[name] != null) {
                    return env;
                }
            }
            return null;
        }
    }

    /** Where a node lies within its body: what is around it there, up to the body itself. */
    static final class Ctx {
        final Ctx up;
        final int label;
        final boolean barrier;
        final int body;
        final Gen gen;

        Ctx(Ctx up, int label, boolean barrier, int body, Gen gen) {
            this.up = up;
            this.label = label;
            this.barrier = barrier;
            this.body = body;
            this.gen = gen;
        }

        Ctx loop(int label) {
            return new Ctx(this, label, false, body, gen);
        }

        Ctx barred() {
            return new Ctx(this, NONE, true, body, gen);
        }

        Ctx find(int label) {
            for (Ctx ctx = this; ctx != null; ctx = ctx.up) {
                if (ctx.label == label) {
                    return ctx;
                }
            }
            return null;
        }

        boolean isBarred() {
            for (Ctx ctx = this; ctx != null; ctx = ctx.up) {
                if (ctx.barrier) {
                    return true;
                }
            }
            return false;
        }
    }

    static final class Fun {
        int number;
        int name;
        int body;
        Env kept;
    }

    final class Gen {
        int number;
        int body;
        Env kept;
        String state = "fresh";
        Thread thread;
        final SynchronousQueue<Object> in = new SynchronousQueue<>();
        final SynchronousQueue<Object> out = new SynchronousQueue<>();
    }

    static class Signal extends RuntimeException {
        private static final long serialVersionUID = 1L;

        Signal() {
            super(null, null, false, false);
        }
    }

    static final class Fail extends Signal {
        private static final long serialVersionUID = 1L;
        int error;
        Integer cause;
        transient List<Integer> trace;
    }

    static final class Leave extends Signal {
        private static final long serialVersionUID = 1L;
        char how;
        transient Ctx loop;
        transient Object value;
    }

    /** Not to be caught by anything of the language. */
    static final class Out extends RuntimeException {
        private static final long serialVersionUID = 1L;
        transient List<Integer> trace;

        Out() {
            super(null, null, false, false);
        }
    }

    static final class Killed extends RuntimeException {
        private static final long serialVersionUID = 1L;

        Killed() {
            super(null, null, false, false);
        }
    }

    static final class Rested {
        Object value;
    }

    static final class Rest {
        int node;
        int[] looks = new int[8];
        int active;
        World world;
        boolean beyond;
    }

    static final class Report {
        int outcome = 0;
        int steps = 0;
        int cause = 50000;
        List<Integer> trace = new ArrayList<>();
    }

    /* How often each kind ended in each way: to see what the tests reach. */
    static final long[][] REACHED = new long[40][16];

    final List<int[]> nodes = new ArrayList<>();
    final List<Integer> sizes = new ArrayList<>();
    final List<Boolean> breaks = new ArrayList<>();
    World world = new World();
    int budget = 300;
    Report last = new Report();

    private List<Rest> rests;
    private int position;
    private World atStart;
    private World atEnd;
    private Report reportAtEnd;

    private int steps;
    private int funs;
    private List<Gen> gens;
    private ArrayDeque<Integer> calls;
    private boolean hooking;
    private boolean noting;

    // ---- programs

    private static String shape(int kind) {
        switch (kind) {
            case Macroloom.NUMBER: return "number none none";
            case Macroloom.NAME: return "name none none";
            case Macroloom.LET: case Macroloom.PUT: case Macroloom.FUNCTION: return "name node none";
            case Macroloom.SUM: case Macroloom.MINUS: case Macroloom.TIMES: case Macroloom.OVER: case Macroloom.BELOW:
            case Macroloom.SAME: case Macroloom.THEN: case Macroloom.APPLY: case Macroloom.FINALLY: return "node node none";
            case Macroloom.IF: return "node node node";
            case Macroloom.SCOPE: case Macroloom.RETURN: case Macroloom.THROW: case Macroloom.GENERATOR: case Macroloom.YIELD:
            case Macroloom.ASK: case Macroloom.INSERT: case Macroloom.MOVE: case Macroloom.CURSOR: case Macroloom.EACH:
            case Macroloom.BUFFER: return "node none none";
            case Macroloom.LOOP: case Macroloom.BREAK: case Macroloom.STAY: return "four node none";
            case Macroloom.NEXT: case Macroloom.GET: return "four none none";
            case Macroloom.CALL: return "slot maybe maybe";
            case Macroloom.TRY: return "name node node";
            case Macroloom.OPTION: return "four node node";
            case Macroloom.ERASE: case Macroloom.HERE: case Macroloom.LETTER: case Macroloom.LENGTH: return "none none none";
            case Macroloom.RELOAD: return "slot node none";
            case Macroloom.HOOK: return "hook none none";
            default: return null;
        }
    }

    private boolean isNode(int node) {
        return node >= 0 && node < nodes.size();
    }

    private static boolean within(int number, int low, int high) {
        return low <= number && number <= high;
    }

    int node(int kind, int a, int b, int c) {
        String shape = shape(kind);
        if (shape == null) {
            throw new IllegalArgumentException();
        }
        String[] words = shape.split(" ");
        if (kind == Macroloom.CALL && b == NONE) {
            words[2] = "none";
        }
        int[] given = {a, b, c};
        for (int i = 0; i < 3; i++) {
            if (words[i].equals("node") && !isNode(given[i]) || words[i].equals("maybe") && given[i] != NONE && !isNode(given[i])) {
                throw new IndexOutOfBoundsException();
            }
        }
        int size = 1;
        for (int i = 0; i < 3; i++) {
            boolean fine = true;
            switch (words[i]) {
                case "number": fine = within(given[i], -9999, 9999); break;
                case "name": fine = within(given[i], 0, 7); break;
                case "four": fine = within(given[i], 0, 3); break;
                case "slot": fine = within(given[i], 0, 5); break;
                case "hook": fine = within(given[i], -1, 5); break;
                case "none": fine = given[i] == NONE; break;
                default: size += given[i] == NONE || kind == Macroloom.RELOAD ? 0 : sizes.get(given[i]);
            }
            if (!fine) {
                throw new IllegalArgumentException();
            }
        }
        if (nodes.size() == 120 || size > 150) {
            throw new IllegalStateException();
        }
        nodes.add(new int[] {kind, a, b, c});
        sizes.add(size);
        breaks.add(false);
        return nodes.size() - 1;
    }

    private static void need(boolean holds) {
        if (!holds) {
            throw new IndexOutOfBoundsException();
        }
    }

    private static void needArgument(boolean holds) {
        if (!holds) {
            throw new IllegalArgumentException();
        }
    }

    private static void needState(boolean holds) {
        if (!holds) {
            throw new IllegalStateException();
        }
    }

    int define(int slot, int parameters, int body, int standard) {
        need(within(slot, 0, 5) && isNode(body) && (standard == NONE || isNode(standard)));
        needArgument(within(parameters, 0, 2) && (standard == NONE || parameters == 2));
        needState(rests == null);
        int old = world.bodies[slot];
        world.bodies[slot] = body;
        world.parameters[slot] = parameters;
        world.standards[slot] = standard;
        return old;
    }

    int size(int node) {
        need(isNode(node));
        return sizes.get(node);
    }

    int setOption(int option, int value) {
        need(within(option, 0, 3));
        needArgument(within(value, -9999, 9999));
        needState(rests == null);
        int old = (Integer) world.options[option];
        world.options[option] = value;
        return old;
    }

    int setBudget(int steps) {
        needArgument(within(steps, 1, 600));
        int old = budget;
        budget = steps;
        return old;
    }

    int write(int buffer, int letter) {
        need(within(buffer, 0, 1));
        needArgument(within(letter, 0, 25));
        needState(world.texts[buffer].letters.size() < 40 && rests == null);
        world.texts[buffer].letters.add(letter);
        return world.texts[buffer].letters.size();
    }

    // ---- runs

    int run(int node) {
        need(isNode(node));
        needState(rests == null);
        last = perform(node);
        return last.outcome;
    }

    int tried(int node) {
        need(isNode(node));
        needState(rests == null);
        World kept = world.copy();
        Report report = perform(node);
        world = kept;
        return report.outcome;
    }

    int triedSteps(int node) {
        need(isNode(node));
        needState(rests == null);
        World kept = world.copy();
        Report report = perform(node);
        world = kept;
        return report.steps;
    }

    void start(int node) {
        need(isNode(node));
        needState(rests == null);
        atStart = world.copy();
        rests = new ArrayList<>();
        noting = true;
        reportAtEnd = perform(node);
        noting = false;
        atEnd = world;
        position = 0;
        world = rests.get(0).world.copy();
    }

    int step(int steps) {
        needArgument(within(steps, 1, 600));
        needState(rests != null);
        int begun = 0;
        for (int turn = 0; turn < steps; turn++) {
            Rest rest = rests.get(position);
            if (turn > 0 && breaks.get(rest.node)) {
                break;
            }
            if (!rest.beyond) {
                begun++;
            }
            position++;
            if (position == rests.size()) {
                world = atEnd;
                last = reportAtEnd;
                rests = null;
                return begun;
            }
        }
        world = rests.get(position).world.copy();
        return begun;
    }

    int giveUp() {
        needState(rests != null);
        int[] registers = world.registers;
        world = atStart;
        world.registers = registers;
        rests = null;
        return position;
    }

    boolean breakAt(int node, boolean on) {
        need(isNode(node));
        return breaks.set(node, on);
    }

    int next() {
        return rests == null ? NONE : rests.get(position).node;
    }

    int look(int name) {
        need(within(name, 0, 7));
        needState(rests != null);
        return rests.get(position).looks[name];
    }

    int active() {
        return rests == null ? 0 : rests.get(position).active;
    }

    int outcome() {
        return last.outcome;
    }

    int steps() {
        return last.steps;
    }

    int cause() {
        return last.cause;
    }

    int traced() {
        return last.trace.size();
    }

    int traceAt(int place) {
        need(within(place, 0, last.trace.size() - 1));
        return last.trace.get(place);
    }

    // ---- texts

    int buffer() {
        return world.current;
    }

    int length(int buffer) {
        need(within(buffer, 0, 1));
        return world.texts[buffer].letters.size();
    }

    int letter(int buffer, int place) {
        need(within(buffer, 0, 1) && within(place, 0, world.texts[buffer].letters.size() - 1));
        return world.texts[buffer].letters.get(place);
    }

    int cursor(int buffer, int cursor) {
        need(within(buffer, 0, 1) && within(cursor, 0, 3));
        return world.texts[buffer].cursors[cursor];
    }

    int activeCursor(int buffer) {
        need(within(buffer, 0, 1));
        return world.texts[buffer].active;
    }

    int option(int option) {
        need(within(option, 0, 3));
        return told(world.options[option]);
    }

    int register(int register) {
        need(within(register, 0, 3));
        return world.registers[register];
    }

    int body(int slot) {
        need(within(slot, 0, 5));
        return world.bodies[slot];
    }

    int hook() {
        return world.hook;
    }

    // ---- how a run is done

    static int told(Object value) {
        if (value instanceof Fun) {
            return 20000 + ((Fun) value).number;
        }
        if (value instanceof Gen) {
            return 30000 + ((Gen) value).number;
        }
        return (Integer) value;
    }

    private Report perform(int node) {
        World before = world.copy();
        steps = 0;
        funs = 0;
        gens = new ArrayList<>();
        calls = new ArrayDeque<>();
        hooking = false;
        Report report = new Report();
        try {
            Object value = eval(node, new Env(null), new Ctx(null, NONE, false, RUN, null));
            closeAll();
            report.outcome = told(value);
        } catch (Fail fail) {
            report.outcome = 50000 + fail.error;
            report.cause = fail.cause == null ? 50000 : fail.cause;
            report.trace = fail.trace;
            undo(before);
        } catch (Out out) {
            report.outcome = 50000 + Macroloom.BUDGET;
            report.trace = out.trace;
            undo(before);
        }
        report.steps = steps;
        for (Gen gen : gens) {
            if (gen.state.equals("resting")) {
                send(gen.in, "kill");
                take(gen.out);
            }
        }
        return report;
    }

    private void undo(World before) {
        before.registers = world.registers;
        world = before;
    }

    private void closeAll() {
        while (true) {
            Gen resting = null;
            for (Gen gen : gens) {
                if (gen.state.equals("resting")) {
                    resting = gen;
                    break;
                }
            }
            if (resting == null) {
                return;
            }
            resting.state = "closing";
            send(resting.in, "close");
            Object answer = take(resting.out);
            resting.state = "spent";
            if (answer instanceof RuntimeException) {
                throw (RuntimeException) answer;
            }
        }
    }

    private static void send(SynchronousQueue<Object> queue, Object message) {
        try {
            queue.put(message);
        } catch (InterruptedException e) {
            throw new Error(e);
        }
    }

    private static Object take(SynchronousQueue<Object> queue) {
        try {
            return queue.take();
        } catch (InterruptedException e) {
            throw new Error(e);
        }
    }

    private void begin(int node, Env env) {
        boolean beyond = steps >= budget;
        if (noting) {
            Rest rest = new Rest();
            rest.node = node;
            rest.active = calls.size();
            rest.world = world.copy();
            rest.beyond = beyond;
            for (int name = 0; name < 8; name++) {
                Env holder = env.holder(name);
                rest.looks[name] = holder == null ? 49999 : told(holder.cells[name]);
            }
            rests.add(rest);
        }
        if (beyond) {
            Out out = new Out();
            out.trace = trace(node);
            throw out;
        }
        steps++;
    }

    private List<Integer> trace(int node) {
        List<Integer> trace = new ArrayList<>();
        trace.add(node);
        trace.addAll(calls);
        return trace;
    }

    private Fail fail(int node, int error) {
        Fail fail = new Fail();
        fail.error = error;
        fail.trace = trace(node);
        return fail;
    }

    private static Leave leave(char how, Ctx loop, Object value) {
        Leave leave = new Leave();
        leave.how = how;
        leave.loop = loop;
        leave.value = value;
        return leave;
    }

    private int number(int node, Object value) {
        if (!(value instanceof Integer)) {
            throw fail(node, Macroloom.TYPE);
        }
        return (Integer) value;
    }

    private Object eval(int node, Env env, Ctx ctx) {
        begin(node, env);
        int kind = nodes.get(node)[0];
        try {
            Object value = done(node, env, ctx);
            REACHED[kind][value instanceof Integer ? 0 : value instanceof Fun ? 1 : 2]++;
            return value;
        } catch (Fail fail) {
            REACHED[kind][fail.error < 0 && fail.error >= -7 ? 3 - fail.error : 3]++;
            throw fail;
        } catch (Leave leave) {
            REACHED[kind][leave.how == 'b' ? 11 : leave.how == 'n' ? 12 : 13]++;
            throw leave;
        } catch (Out out) {
            REACHED[kind][14]++;
            throw out;
        }
    }

    private Object done(int node, Env env, Ctx ctx) {
        int kind = nodes.get(node)[0], a = nodes.get(node)[1], b = nodes.get(node)[2], c = nodes.get(node)[3];
        Env holder;
        Object value, other;
        switch (kind) {
            case Macroloom.NUMBER:
                return a;
            case Macroloom.NAME:
                holder = env.holder(a);
                if (holder == null) {
                    throw fail(node, Macroloom.UNBOUND);
                }
                return holder.cells[a];
            case Macroloom.LET:
                value = eval(b, env, ctx);
                env.cells[a] = value;
                return value;
            case Macroloom.PUT:
                value = eval(b, env, ctx);
                holder = env.holder(a);
                if (holder == null) {
                    throw fail(node, Macroloom.UNBOUND);
                }
                holder.cells[a] = value;
                return value;
            case Macroloom.SUM: case Macroloom.MINUS: case Macroloom.TIMES: case Macroloom.OVER: case Macroloom.BELOW:
                value = eval(a, env, ctx);
                other = eval(b, env, ctx);
                return reckoned(node, kind, number(node, value), number(node, other));
            case Macroloom.SAME:
                value = eval(a, env, ctx);
                other = eval(b, env, ctx);
                return value.equals(other) ? 1 : 0;
            case Macroloom.IF:
                value = eval(a, env, ctx);
                return value.equals(0) ? eval(c, env, ctx) : eval(b, env, ctx);
            case Macroloom.THEN:
                eval(a, env, ctx);
                return eval(b, env, ctx);
            case Macroloom.SCOPE:
                return eval(a, new Env(env), ctx);
            case Macroloom.LOOP:
                return loop(b, env, ctx.loop(a));
            case Macroloom.BREAK:
                value = eval(b, env, ctx);
                if (ctx.find(a) == null) {
                    throw fail(node, Macroloom.ASTRAY);
                }
                throw leave('b', ctx.find(a), value);
            case Macroloom.NEXT:
                if (ctx.find(a) == null) {
                    throw fail(node, Macroloom.ASTRAY);
                }
                throw leave('n', ctx.find(a), null);
            case Macroloom.FUNCTION:
                Fun fun = new Fun();
                fun.number = funs++;
                fun.name = a;
                fun.body = b;
                fun.kept = env;
                return fun;
            case Macroloom.APPLY:
                value = eval(a, env, ctx);
                other = eval(b, env, ctx);
                if (!(value instanceof Fun)) {
                    throw fail(node, Macroloom.TYPE);
                }
                needDepth(node);
                Env inner = new Env(((Fun) value).kept);
                inner.cells[((Fun) value).name] = other;
                return called(node, ((Fun) value).body, inner);
            case Macroloom.CALL:
                List<Object> arguments = new ArrayList<>();
                if (b != NONE) {
                    arguments.add(eval(b, env, ctx));
                }
                if (c != NONE) {
                    arguments.add(eval(c, env, ctx));
                }
                return callSlot(node, a, arguments);
            case Macroloom.RETURN:
                value = eval(a, env, ctx);
                if (ctx.body == RUN || ctx.body == STANDARD) {
                    throw fail(node, Macroloom.ASTRAY);
                }
                throw leave('r', null, value);
            case Macroloom.TRY:
                try {
                    return eval(b, env, ctx);
                } catch (Fail fail) {
                    Env handler = new Env(env);
                    handler.cells[a] = fail.error;
                    return eval(c, handler, ctx);
                }
            case Macroloom.FINALLY:
                return atLast(a, b, env, ctx);
            case Macroloom.THROW:
                throw fail(node, number(node, eval(a, env, ctx)));
            case Macroloom.GENERATOR:
                Gen made = new Gen();
                made.number = gens.size();
                made.body = a;
                made.kept = env;
                gens.add(made);
                return made;
            case Macroloom.YIELD:
                value = eval(a, env, ctx);
                if (ctx.body != GENERATOR_BODY || ctx.isBarred() || ctx.gen.state.equals("closing")) {
                    throw fail(node, Macroloom.ASTRAY);
                }
                return rest(ctx.gen, value);
            case Macroloom.ASK:
                return ask(node, eval(a, env, ctx));
            case Macroloom.OPTION:
                value = eval(b, env, ctx);
                Object old = world.options[a];
                world.options[a] = value;
                try {
                    return eval(c, env, ctx.barred());
                } finally {
                    world.options[a] = old;
                }
            case Macroloom.GET:
                return world.options[a];
            case Macroloom.STAY:
                value = eval(b, env, ctx);
                world.registers[a] = number(node, value);
                return value;
            default:
                return edited(node, env, ctx);
        }
    }

    private int reckoned(int node, int kind, int left, int right) {
        if (kind == Macroloom.OVER && right == 0) {
            throw fail(node, Macroloom.ZERO);
        }
        int result = kind == Macroloom.SUM ? left + right : kind == Macroloom.MINUS ? left - right
            : kind == Macroloom.TIMES ? left * right : kind == Macroloom.OVER ? left / right : left < right ? 1 : 0;
        return result > 9999 ? 9999 : result < -9999 ? -9999 : result;
    }

    private Object loop(int part, Env env, Ctx inside) {
        while (true) {
            try {
                eval(part, new Env(env), inside);
            } catch (Leave leave) {
                if (leave.loop != inside) {
                    throw leave;
                }
                if (leave.how == 'b') {
                    return leave.value;
                }
            }
        }
    }

    private Object atLast(int a, int b, Env env, Ctx ctx) {
        Object value = null;
        Signal ended = null;
        try {
            value = eval(a, env, ctx);
        } catch (Signal signal) {
            ended = signal;
        }
        try {
            eval(b, env, ctx);
        } catch (Fail fail) {
            if (ended instanceof Fail) {
                fail.cause = ((Fail) ended).error;
            }
            throw fail;
        }
        if (ended != null) {
            throw ended;
        }
        return value;
    }

    private void needDepth(int node) {
        if (calls.size() >= 12) {
            throw fail(node, Macroloom.DEPTH);
        }
    }

    private Object called(int node, int body, Env env) {
        calls.push(node);
        try {
            return eval(body, env, new Ctx(null, NONE, false, FUNCTION_BODY, null));
        } catch (Leave leave) {
            return leave.value;
        } finally {
            calls.pop();
        }
    }

    private Object callSlot(int node, int slot, List<Object> arguments) {
        if (world.bodies[slot] == NONE) {
            throw fail(node, Macroloom.UNBOUND);
        }
        int parameters = world.parameters[slot];
        if (arguments.size() > parameters) {
            throw fail(node, Macroloom.TYPE);
        }
        Env inner = new Env(null);
        for (int i = 0; i < parameters; i++) {
            if (i < arguments.size()) {
                inner.cells[i] = arguments.get(i);
            } else if (i == 1 && world.standards[slot] != NONE) {
                inner.cells[1] = eval(world.standards[slot], inner, new Ctx(null, NONE, false, STANDARD, null));
            } else {
                inner.cells[i] = 0;
            }
        }
        needDepth(node);
        return called(node, world.bodies[slot], inner);
    }

    // Generators: each body has a thread, of which one runs at a time.

    private Object ask(int node, Object value) {
        if (!(value instanceof Gen)) {
            throw fail(node, Macroloom.TYPE);
        }
        Gen gen = (Gen) value;
        if (gen.state.equals("asked") || gen.state.equals("closing")) {
            throw fail(node, Macroloom.TYPE);
        }
        if (gen.state.equals("spent")) {
            return -1;
        }
        needDepth(node);
        boolean fresh = gen.state.equals("fresh");
        gen.state = "asked";
        calls.push(node);
        if (fresh) {
            gen.thread = new Thread(null, () -> send(gen.out, bodyOf(gen)), "generator", 4 << 20);
            gen.thread.setDaemon(true);
            gen.thread.start();
        } else {
            send(gen.in, "go on");
        }
        Object answer = take(gen.out);
        calls.pop();
        if (answer instanceof Rested) {
            gen.state = "resting";
            return ((Rested) answer).value;
        }
        gen.state = "spent";
        if (answer instanceof RuntimeException) {
            throw (RuntimeException) answer;
        }
        return -1;
    }

    private Object bodyOf(Gen gen) {
        try {
            eval(gen.body, new Env(gen.kept), new Ctx(null, NONE, false, GENERATOR_BODY, gen));
            return "ended";
        } catch (Leave leave) {
            return "ended";
        } catch (Fail | Out | Killed ended) {
            return ended;
        }
    }

    private Object rest(Gen gen, Object value) {
        Rested rested = new Rested();
        rested.value = value;
        send(gen.out, rested);
        Object order = take(gen.in);
        if (order.equals("kill")) {
            throw new Killed();
        }
        if (order.equals("close")) {
            throw leave('r', null, 0);
        }
        return 0;
    }

    // The text.

    private Object edited(int node, Env env, Ctx ctx) {
        int kind = nodes.get(node)[0], a = nodes.get(node)[1], b = nodes.get(node)[2];
        Text text;
        int number;
        switch (kind) {
            case Macroloom.INSERT:
                return inserted(node, number(node, eval(a, env, ctx)));
            case Macroloom.ERASE:
                return erased(node);
            case Macroloom.MOVE:
                number = number(node, eval(a, env, ctx));
                text = world.text();
                if (!within(number, 0, text.letters.size())) {
                    throw fail(node, Macroloom.RANGE);
                }
                text.cursors[text.active] = number;
                return number;
            case Macroloom.HERE:
                return world.text().cursors[world.text().active];
            case Macroloom.LETTER:
                text = world.text();
                number = text.cursors[text.active];
                return number == text.letters.size() ? -1 : text.letters.get(number);
            case Macroloom.LENGTH:
                return world.text().letters.size();
            case Macroloom.CURSOR:
                number = number(node, eval(a, env, ctx));
                text = world.text();
                for (int free = 0; free < 4; free++) {
                    if (text.cursors[free] == NONE && within(number, 0, text.letters.size())) {
                        text.cursors[free] = number;
                        return free;
                    }
                }
                throw fail(node, Macroloom.RANGE);
            case Macroloom.EACH:
                return each(a, env, ctx);
            case Macroloom.BUFFER:
                number = number(node, eval(a, env, ctx));
                if (number != 0 && number != 1) {
                    throw fail(node, Macroloom.RANGE);
                }
                world.current = number;
                return number;
            case Macroloom.RELOAD:
                if (world.bodies[a] == NONE) {
                    throw fail(node, Macroloom.UNBOUND);
                }
                world.bodies[a] = b;
                return 0;
            case Macroloom.HOOK:
                world.hook = a;
                return 0;
            default:
                throw new Error("no such kind");
        }
    }

    private Object inserted(int node, int letter) {
        Text text = world.text();
        if (!within(letter, 0, 25) || text.letters.size() >= 40) {
            throw fail(node, Macroloom.RANGE);
        }
        int place = text.cursors[text.active];
        text.letters.add(place, letter);
        for (int cursor = 0; cursor < 4; cursor++) {
            if (text.cursors[cursor] != NONE && (cursor == text.active || text.cursors[cursor] > place)) {
                text.cursors[cursor]++;
            }
        }
        if (world.hook != NONE && !hooking) {
            hooking = true;
            try {
                callSlot(node, world.hook, Arrays.asList((Object) letter));
            } finally {
                hooking = false;
            }
        }
        return letter;
    }

    private Object erased(int node) {
        Text text = world.text();
        int place = text.cursors[text.active];
        if (place == 0) {
            throw fail(node, Macroloom.RANGE);
        }
        int letter = text.letters.remove(place - 1);
        for (int cursor = 0; cursor < 4; cursor++) {
            if (text.cursors[cursor] >= place) {
                text.cursors[cursor]--;
            }
        }
        for (int cursor = 0; cursor < 4; cursor++) {
            if (cursor != text.active && text.cursors[cursor] == text.cursors[text.active]) {
                text.cursors[cursor] = NONE;
            }
        }
        return letter;
    }

    private Object each(int part, Env env, Ctx ctx) {
        int buffer = world.current;
        Text text = world.texts[buffer];
        List<Integer> order = new ArrayList<>();
        for (int cursor = 0; cursor < 4; cursor++) {
            if (text.cursors[cursor] != NONE) {
                order.add(cursor);
            }
        }
        int[] places = text.cursors.clone();
        order.sort((one, two) -> places[one] != places[two] ? places[one] - places[two] : one - two);
        int first = text.active;
        int count = 0;
        try {
            for (int cursor : order) {
                if (world.texts[buffer].cursors[cursor] != NONE) {
                    world.texts[buffer].active = cursor;
                    eval(part, env, ctx.barred());
                    count++;
                }
            }
            return count;
        } finally {
            Text now = world.texts[buffer];
            for (int cursor = 3; cursor >= 0; cursor--) {
                if (now.cursors[cursor] != NONE) {
                    now.active = cursor;
                }
            }
            if (now.cursors[first] != NONE) {
                now.active = first;
            }
        }
    }
}
