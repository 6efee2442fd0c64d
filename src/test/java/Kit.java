/** What the tests by hand share: the object under test, checks of its answers, and short names for its nodes. */
abstract class Kit {
    static final int NONE = -1;
    static final int ERROR = 50000;
    static final int FUN = 20000;
    static final int GEN = 30000;

    static int checks = 0;
    static int wrong = 0;
    /** What is being tested, told ahead of each wrong answer. */
    static String about = "";

    /** The object under test; the short methods below make nodes of it. */
    static Macroloom x;

    interface Call {
        void made();
    }

    // ---- checks

    static void due(String what, long got, long want) {
        checks++;
        if (got != want) {
            wrong++;
            System.out.println(about + ": " + what + " answered " + got + ", due is " + want);
        }
    }

    static void due(String what, boolean got, boolean want) {
        due(what, got ? 1 : 0, want ? 1 : 0);
    }

    static void refused(String what, Class<? extends RuntimeException> want, Call call) {
        checks++;
        try {
            call.made();
        } catch (RuntimeException thrown) {
            if (thrown.getClass() == want) {
                return;
            }
            wrong++;
            System.out.println(about + ": " + what + " threw " + thrown + ", due is " + want);
            return;
        }
        wrong++;
        System.out.println(about + ": " + what + " threw nothing, due is " + want);
    }

    static void noIndex(String what, Call call) {
        refused(what, IndexOutOfBoundsException.class, call);
    }

    static void noArgument(String what, Call call) {
        refused(what, IllegalArgumentException.class, call);
    }

    static void noState(String what, Call call) {
        refused(what, IllegalStateException.class, call);
    }

    /** Runs a node; tried() and triedSteps() have to tell the same ahead of it. */
    static void runs(String what, int node, int want) {
        int tried = x.tried(node), triedSteps = x.triedSteps(node);
        due(what, x.run(node), want);
        due(what + ", tried", tried, want);
        due(what + ", triedSteps", triedSteps, x.steps());
    }

    static void costs(String what, int node, int want, int steps) {
        runs(what, node, want);
        due(what + ", steps", x.steps(), steps);
    }

    static void trace(String what, int... nodes) {
        due(what + ", traced", x.traced(), nodes.length);
        for (int i = 0; i < nodes.length && i < x.traced(); i++) {
            due(what + ", traceAt " + i, x.traceAt(i), nodes[i]);
        }
    }

    static void text(String what, int buffer, String letters) {
        StringBuilder got = new StringBuilder();
        for (int i = 0; i < x.length(buffer); i++) {
            got.append((char) ('a' + x.letter(buffer, i)));
        }
        checks++;
        if (!got.toString().equals(letters)) {
            wrong++;
            System.out.println(about + ": " + what + " left " + got + ", due is " + letters);
        }
    }

    static void cursors(String what, int buffer, int zeroth, int first, int second, int third, int active) {
        int[] want = {zeroth, first, second, third};
        for (int i = 0; i < 4; i++) {
            due(what + ", cursor " + i, x.cursor(buffer, i), want[i]);
        }
        due(what + ", active cursor", x.activeCursor(buffer), active);
    }

    static void write(int buffer, String letters) {
        for (int i = 0; i < letters.length(); i++) {
            x.write(buffer, letters.charAt(i) - 'a');
        }
    }

    // ---- nodes

    static int num(int value) {
        return x.node(Macroloom.NUMBER, value, NONE, NONE);
    }

    static int name(int name) {
        return x.node(Macroloom.NAME, name, NONE, NONE);
    }

    static int let(int name, int value) {
        return x.node(Macroloom.LET, name, value, NONE);
    }

    static int put(int name, int value) {
        return x.node(Macroloom.PUT, name, value, NONE);
    }

    static int two(int kind, int a, int b) {
        return x.node(kind, a, b, NONE);
    }

    static int one(int kind, int a) {
        return x.node(kind, a, NONE, NONE);
    }

    static int bare(int kind) {
        return x.node(kind, NONE, NONE, NONE);
    }

    static int iff(int a, int b, int c) {
        return x.node(Macroloom.IF, a, b, c);
    }

    static int then(int... parts) {
        int node = parts[parts.length - 1];
        for (int i = parts.length - 2; i >= 0; i--) {
            node = two(Macroloom.THEN, parts[i], node);
        }
        return node;
    }

    static int fun(int name, int body) {
        return two(Macroloom.FUNCTION, name, body);
    }

    static int apply(int function, int argument) {
        return two(Macroloom.APPLY, function, argument);
    }

    static int call(int slot, int b, int c) {
        return x.node(Macroloom.CALL, slot, b, c);
    }

    static int loop(int label, int part) {
        return two(Macroloom.LOOP, label, part);
    }

    static int leave(int label, int value) {
        return two(Macroloom.BREAK, label, value);
    }

    static int attempt(int name, int b, int c) {
        return x.node(Macroloom.TRY, name, b, c);
    }

    static int last(int a, int b) {
        return two(Macroloom.FINALLY, a, b);
    }

    static int fail(int error) {
        return one(Macroloom.THROW, num(error));
    }

    static int insert(int letter) {
        return one(Macroloom.INSERT, num(letter));
    }

    static int move(int place) {
        return one(Macroloom.MOVE, num(place));
    }

    static int stay(int register, int value) {
        return two(Macroloom.STAY, register, value);
    }

    static int gen(int body) {
        return one(Macroloom.GENERATOR, body);
    }

    static int yielded(int value) {
        return one(Macroloom.YIELD, value);
    }

    static int ask(int generator) {
        return one(Macroloom.ASK, generator);
    }

    static int option(int option, int b, int c) {
        return x.node(Macroloom.OPTION, option, b, c);
    }

    static int get(int option) {
        return one(Macroloom.GET, option);
    }

    static int minus(int a, int b) {
        return two(Macroloom.MINUS, a, b);
    }

    static int sum(int a, int b) {
        return two(Macroloom.SUM, a, b);
    }

    static int below(int a, int b) {
        return two(Macroloom.BELOW, a, b);
    }

    static int same(int a, int b) {
        return two(Macroloom.SAME, a, b);
    }

    static int scope(int part) {
        return one(Macroloom.SCOPE, part);
    }

    static int again(int label) {
        return one(Macroloom.NEXT, label);
    }

    static int back(int value) {
        return one(Macroloom.RETURN, value);
    }

    static int thrown(int error) {
        return one(Macroloom.THROW, error);
    }

    static int erase() {
        return bare(Macroloom.ERASE);
    }

    static int here() {
        return bare(Macroloom.HERE);
    }

    static int behind() {
        return bare(Macroloom.LETTER);
    }

    static int letters() {
        return bare(Macroloom.LENGTH);
    }

    static int another(int place) {
        return one(Macroloom.CURSOR, num(place));
    }

    static int each(int part) {
        return one(Macroloom.EACH, part);
    }

    static int into(int buffer) {
        return one(Macroloom.BUFFER, num(buffer));
    }

    static int reload(int slot, int body) {
        return two(Macroloom.RELOAD, slot, body);
    }

    static int hook(int slot) {
        return one(Macroloom.HOOK, slot);
    }

    /** A node of this size, of which each part that begins costs a step: as many as the size. */
    static int sized(int size) {
        if (size <= 1) {
            return num(0);
        }
        if (size % 2 == 0) {
            return scope(sized(size - 1));
        }
        int half = sized(size / 2);
        return sum(half, half);
    }

    /** By this a node is done with so many calls active; it uses the names 6 and 7. */
    static int deep(int calls, int node) {
        int self = apply(name(6), minus(name(7), num(1)));
        return then(let(6, fun(7, iff(name(7), self, node))), apply(name(6), num(calls - 1)));
    }
}
