/**
 * The promises of the document, one method each: ordinary inputs, the edges that the document names, wrong inputs.
 * Each answer that is due is written out by hand from the document.
 */
public final class PromiseTest extends Kit {
    public static void main(String[] args) {
        Call[] promises = {
            PromiseTest::p1, PromiseTest::p2, PromiseTest::p3, PromiseTest::p4, PromiseTest::p5, PromiseTest::p6, PromiseTest::p7,
            PromiseTest::p8, PromiseTest::p9, PromiseTest::p10, PromiseTest::p11, PromiseTest::p12, PromiseTest::p13,
            PromiseTest::p14, PromiseTest::p15, PromiseTest::p16, PromiseTest::p17, PromiseTest::p18, PromiseTest::p19,
            PromiseTest::p20, PromiseTest::p21, PromiseTest::p22, PromiseTest::p23, PromiseTest::p24, PromiseTest::p25,
            PromiseTest::p26, PromiseTest::p27, PromiseTest::p28, PromiseTest::p29, PromiseTest::p30, PromiseTest::p31};
        for (int i = 0; i < promises.length; i++) {
            about = "promise " + (i + 1);
            x = new Macroloom();
            promises[i].made();
        }
        System.out.println("PromiseTest: " + checks + " checks, " + wrong + " wrong");
        System.exit(wrong > 0 ? 1 : 0);
    }

    // ---- Promise 1: a new object

    private static void p1() {
        due("NONE", Macroloom.NONE, -1);
        due("outcome", x.outcome(), 0);
        due("steps", x.steps(), 0);
        due("cause", x.cause(), ERROR);
        due("traced", x.traced(), 0);
        due("next", x.next(), NONE);
        due("active", x.active(), 0);
        due("buffer", x.buffer(), 0);
        due("hook", x.hook(), NONE);
        for (int buffer = 0; buffer < 2; buffer++) {
            due("length", x.length(buffer), 0);
            cursors("new", buffer, 0, NONE, NONE, NONE, 0);
        }
        for (int i = 0; i < 4; i++) {
            due("option", x.option(i), 0);
            due("register", x.register(i), 0);
        }
        for (int slot = 0; slot < 6; slot++) {
            due("body", x.body(slot), NONE);
        }
        noIndex("size(0)", () -> x.size(0));
        noIndex("run(0)", () -> x.run(0));
        due("budget", x.setBudget(300), 300);
        Macroloom other = new Macroloom();
        num(4);
        write(0, "ab");
        due("another object", other.length(0), 0);
        noIndex("another object", () -> other.size(0));
    }

    // ---- Promise 2: node

    private static void p2() {
        due("the first", num(1), 0);
        due("the second", num(-9999), 1);
        due("the third", num(9999), 2);
        int[] parts = {Macroloom.SUM, Macroloom.MINUS, Macroloom.TIMES, Macroloom.OVER, Macroloom.BELOW, Macroloom.SAME,
            Macroloom.THEN, Macroloom.APPLY, Macroloom.FINALLY};
        int number = 3;
        for (int kind : parts) {
            due("kind " + kind, two(kind, 0, 1), number++);
            noIndex("a of " + kind, () -> x.node(kind, 99, 0, NONE));
            noIndex("b of " + kind, () -> x.node(kind, 0, NONE, NONE));
            noArgument("c of " + kind, () -> x.node(kind, 0, 0, 0));
        }
        int[] singles = {Macroloom.SCOPE, Macroloom.RETURN, Macroloom.THROW, Macroloom.GENERATOR, Macroloom.YIELD, Macroloom.ASK,
            Macroloom.INSERT, Macroloom.MOVE, Macroloom.CURSOR, Macroloom.EACH, Macroloom.BUFFER};
        for (int kind : singles) {
            due("kind " + kind, one(kind, 0), number++);
            noIndex("a of " + kind, () -> x.node(kind, -1, NONE, NONE));
            noArgument("b of " + kind, () -> x.node(kind, 0, 0, NONE));
            noArgument("c of " + kind, () -> x.node(kind, 0, NONE, 0));
        }
        int[] bares = {Macroloom.ERASE, Macroloom.HERE, Macroloom.LETTER, Macroloom.LENGTH};
        for (int kind : bares) {
            due("kind " + kind, bare(kind), number++);
            noArgument("a of " + kind, () -> x.node(kind, 0, NONE, NONE));
            noArgument("b of " + kind, () -> x.node(kind, NONE, 0, NONE));
            noArgument("c of " + kind, () -> x.node(kind, NONE, NONE, -2));
        }
        number = numbered(number, new int[] {Macroloom.NAME}, 7, false);
        number = numbered(number, new int[] {Macroloom.LET, Macroloom.PUT, Macroloom.FUNCTION}, 7, true);
        number = numbered(number, new int[] {Macroloom.NEXT, Macroloom.GET}, 3, false);
        number = numbered(number, new int[] {Macroloom.LOOP, Macroloom.BREAK, Macroloom.STAY}, 3, true);
        number = numbered(number, new int[] {Macroloom.RELOAD}, 5, true);
        p2Triples();
        p2Wrong();
        p2Limits();
    }

    private static int numbered(int from, int[] kinds, int highest, boolean withPart) {
        int number = from;
        int b = withPart ? 0 : NONE;
        for (int kind : kinds) {
            due("kind " + kind, x.node(kind, 0, b, NONE), number++);
            due("kind " + kind, x.node(kind, highest, b, NONE), number++);
            noArgument("a of " + kind, () -> x.node(kind, highest + 1, b, NONE));
            noArgument("a of " + kind, () -> x.node(kind, -1, b, NONE));
            noArgument("c of " + kind, () -> x.node(kind, 0, b, 0));
            if (withPart) {
                noIndex("b of " + kind, () -> x.node(kind, 0, NONE, NONE));
                noIndex("b of " + kind, () -> x.node(kind, 99, 118, NONE));
            } else {
                noArgument("b of " + kind, () -> x.node(kind, 0, 0, NONE));
            }
        }
        return number;
    }

    private static void p2Triples() {
        int first = x.node(Macroloom.IF, 0, 1, 2);
        due("TRY", x.node(Macroloom.TRY, 7, 0, 1), first + 1);
        due("OPTION", x.node(Macroloom.OPTION, 3, 0, 1), first + 2);
        noIndex("a of IF", () -> x.node(Macroloom.IF, NONE, 0, 0));
        noIndex("b of IF", () -> x.node(Macroloom.IF, 0, NONE, 0));
        noIndex("c of IF", () -> x.node(Macroloom.IF, 0, 0, NONE));
        noArgument("a of TRY", () -> x.node(Macroloom.TRY, 8, 0, 0));
        noArgument("a of TRY", () -> x.node(Macroloom.TRY, -1, 0, 0));
        noIndex("b of TRY", () -> x.node(Macroloom.TRY, 0, 200, 0));
        noIndex("c of TRY", () -> x.node(Macroloom.TRY, 0, 0, NONE));
        noArgument("a of OPTION", () -> x.node(Macroloom.OPTION, 4, 0, 0));
        noIndex("c of OPTION", () -> x.node(Macroloom.OPTION, 4, 0, NONE));
        due("CALL", call(0, NONE, NONE), first + 3);
        due("CALL", call(5, 0, NONE), first + 4);
        due("CALL", call(5, 0, 1), first + 5);
        for (int alone : new int[] {0, 1, first + 5, first + 6, 119, 120, -2, Integer.MIN_VALUE, Integer.MAX_VALUE}) {
            noArgument("CALL with c alone, " + alone, () -> call(0, NONE, alone));
            noArgument("CALL of no slot with c alone, " + alone, () -> call(6, NONE, alone));
        }
        noArgument("a of CALL", () -> call(6, 0, 0));
        noArgument("a of CALL", () -> call(-1, NONE, NONE));
        noIndex("b of CALL", () -> call(0, -2, NONE));
        noIndex("b of CALL", () -> call(0, 119, NONE));
        noIndex("b and c of CALL", () -> call(0, -2, -2));
        noIndex("b of CALL ahead of its slot", () -> call(6, -2, NONE));
        noIndex("c of CALL ahead of its slot", () -> call(6, 0, 119));
        noIndex("c of CALL", () -> call(0, 0, -2));
        noIndex("c of CALL", () -> call(0, 0, 119));
        due("HOOK", one(Macroloom.HOOK, NONE), first + 6);
        due("HOOK", one(Macroloom.HOOK, 5), first + 7);
        noArgument("a of HOOK", () -> one(Macroloom.HOOK, 6));
        noArgument("a of HOOK", () -> one(Macroloom.HOOK, -2));
        noArgument("b of HOOK", () -> two(Macroloom.HOOK, 0, 0));
        noArgument("a of RELOAD", () -> two(Macroloom.RELOAD, -1, 0));
    }

    private static void p2Wrong() {
        noArgument("kind -1", () -> x.node(-1, 0, 0, 0));
        noArgument("kind 40", () -> x.node(40, 0, 0, 0));
        noArgument("kind least", () -> x.node(Integer.MIN_VALUE, 0, 0, 0));
        noArgument("kind greatest", () -> x.node(Integer.MAX_VALUE, NONE, NONE, NONE));
        noArgument("NUMBER 10000", () -> num(10000));
        noArgument("NUMBER -10000", () -> num(-10000));
        noArgument("NUMBER with b", () -> x.node(Macroloom.NUMBER, 0, 0, NONE));
        noArgument("NUMBER with c", () -> x.node(Macroloom.NUMBER, 0, NONE, 0));
        noIndex("the index first", () -> x.node(Macroloom.LET, 8, 119, 5));
        noIndex("a node made later", () -> one(Macroloom.SCOPE, 119));
        noIndex("least node", () -> one(Macroloom.SCOPE, Integer.MIN_VALUE));
        noIndex("greatest node", () -> one(Macroloom.SCOPE, Integer.MAX_VALUE));
    }

    private static void p2Limits() {
        x = new Macroloom();
        int node = num(0);
        for (int i = 0; i < 6; i++) {
            node = two(Macroloom.SUM, node, node);
        }
        due("size", x.size(node), 127);
        int rest = num(0);
        for (int i = 0; i < 21; i++) {
            rest = one(Macroloom.SCOPE, rest);
        }
        int whole = node, most = rest;
        due("size", x.size(most), 22);
        due("150 is fine", x.size(two(Macroloom.SUM, whole, most)), 150);
        int more = one(Macroloom.SCOPE, most);
        int count = more + 1;
        noState("151 is too large", () -> two(Macroloom.SUM, whole, more));
        noState("151 by three", () -> iff(whole, most, 0));
        noArgument("the argument first", () -> x.node(Macroloom.SUM, whole, more, 0));
        noArgument("the label first", () -> x.node(Macroloom.OPTION, 4, whole, more));
        due("RELOAD does not count its part", two(Macroloom.RELOAD, 0, whole), count);
        due("none was made", num(1), count + 1);
        for (int made = count + 2; made < 120; made++) {
            due("as they are made", num(1), made);
        }
        noState("the 121st", () -> num(1));
        noIndex("the index first", () -> one(Macroloom.SCOPE, 120));
        noArgument("the argument first", () -> num(10000));
        x = new Macroloom();
        noArgument("CALL with c alone, of no nodes", () -> call(0, NONE, 0));
        due("CALL of no nodes", call(0, NONE, NONE), 0);
        x = new Macroloom();
        num(3);
        x.start(0);
        due("while a run is stepped", num(5), 1);
        due("it goes on", x.step(9), 1);
    }

    // ---- Promise 3: define

    private static void p3() {
        int seven = num(7), first = name(0), second = name(1);
        due("first time", x.define(0, 1, first, NONE), NONE);
        due("second time", x.define(0, 2, second, seven), first);
        due("body", x.body(0), second);
        due("last slot", x.define(5, 0, seven, NONE), NONE);
        due("last slot again", x.define(5, 0, first, NONE), seven);
        noIndex("slot -1", () -> x.define(-1, 0, 0, NONE));
        noIndex("slot 6", () -> x.define(6, 0, 0, NONE));
        noIndex("no body", () -> x.define(0, 0, NONE, NONE));
        noIndex("no such body", () -> x.define(0, 9, 3, 5));
        noIndex("no such standard", () -> x.define(0, 2, 0, 3));
        noIndex("standard -2", () -> x.define(0, 2, 0, -2));
        noIndex("the index first", () -> x.define(0, 3, 0, 3));
        noArgument("parameters -1", () -> x.define(0, -1, 0, NONE));
        noArgument("parameters 3", () -> x.define(0, 3, 0, NONE));
        noArgument("a standard for 1", () -> x.define(0, 1, 0, 0));
        noArgument("a standard for 0", () -> x.define(0, 0, 0, 0));
        due("unchanged", x.body(0), second);
        runs("standard", call(0, NONE, NONE), 7);
        x.define(0, 2, second, NONE);
        runs("no standard", call(0, seven, NONE), 0);
        runs("both", call(0, first, seven), ERROR + Macroloom.UNBOUND);
        runs("both", call(0, seven, num(8)), 8);
        x.start(0);
        noState("stepped", () -> x.define(0, 0, 0, NONE));
        noIndex("stepped, the index first", () -> x.define(6, 0, 0, NONE));
        noArgument("stepped, the argument first", () -> x.define(0, 3, 0, NONE));
        x.giveUp();
        due("behind it", x.define(0, 0, 0, NONE), second);
    }

    // ---- Promise 4: size

    private static void p4() {
        int one = num(1);
        int sum = two(Macroloom.SUM, one, one);
        int iff = iff(sum, one, sum);
        due("NUMBER", x.size(one), 1);
        due("SUM", x.size(sum), 3);
        due("IF", x.size(iff), 8);
        due("CALL of none", x.size(call(0, NONE, NONE)), 1);
        due("CALL of one", x.size(call(0, sum, NONE)), 4);
        due("CALL of two", x.size(call(0, sum, iff)), 12);
        due("RELOAD", x.size(two(Macroloom.RELOAD, 3, iff)), 1);
        due("LET", x.size(let(3, iff)), 9);
        due("TRY", x.size(attempt(3, iff, sum)), 12);
        due("OPTION", x.size(option(1, iff, sum)), 12);
        due("FUNCTION", x.size(fun(1, sum)), 4);
        due("GENERATOR", x.size(gen(sum)), 4);
        due("HOOK", x.size(one(Macroloom.HOOK, 0)), 1);
        due("LOOP", x.size(loop(0, sum)), 4);
        due("THROW", x.size(one(Macroloom.THROW, sum)), 4);
        noIndex("size(-1)", () -> x.size(-1));
        noIndex("size(99)", () -> x.size(99));
    }

    // ---- Promise 5: setOption

    private static void p5() {
        due("first", x.setOption(0, 5), 0);
        due("again", x.setOption(0, -9999), 5);
        due("again", x.setOption(0, 9999), -9999);
        due("last", x.setOption(3, 1), 0);
        due("option", x.option(0), 9999);
        noIndex("-1", () -> x.setOption(-1, 0));
        noIndex("4", () -> x.setOption(4, 10000));
        noArgument("10000", () -> x.setOption(0, 10000));
        noArgument("-10000", () -> x.setOption(0, -10000));
        due("unchanged", x.option(0), 9999);
        runs("GET", get(0), 9999);
        x.start(0);
        noState("stepped", () -> x.setOption(0, 1));
        noIndex("stepped, the index first", () -> x.setOption(4, 1));
        noArgument("stepped, the argument first", () -> x.setOption(0, 10000));
        x.giveUp();
        due("behind it", x.setOption(0, 1), 9999);
    }

    // ---- Promise 6: setBudget

    private static void p6() {
        int sum = two(Macroloom.SUM, num(1), num(2));
        due("at first", x.setBudget(3), 300);
        costs("as many as it needs", sum, 3, 3);
        due("again", x.setBudget(2), 3);
        costs("one less", sum, ERROR + Macroloom.BUDGET, 2);
        trace("one less", 1);
        due("least", x.setBudget(1), 2);
        costs("least", sum, ERROR + Macroloom.BUDGET, 1);
        trace("least", 0);
        costs("one node", 0, 1, 1);
        due("most", x.setBudget(600), 1);
        int forever = loop(0, num(1));
        costs("most", forever, ERROR + Macroloom.BUDGET, 600);
        noArgument("0", () -> x.setBudget(0));
        noArgument("-1", () -> x.setBudget(-1));
        noArgument("601", () -> x.setBudget(601));
        due("unchanged", x.setBudget(5), 600);
        x.start(forever);
        due("while a run is stepped", x.setBudget(9), 5);
        due("it keeps its own", x.step(600), 5);
        due("it keeps its own", x.outcome(), ERROR + Macroloom.BUDGET);
        costs("the next one", forever, ERROR + Macroloom.BUDGET, 9);
    }

    // ---- Promise 7: write

    private static void p7() {
        due("first", x.write(0, 0), 1);
        due("second", x.write(0, 25), 2);
        due("the other text", x.write(1, 7), 1);
        text("zero", 0, "az");
        text("one", 1, "h");
        cursors("they stay", 0, 0, NONE, NONE, NONE, 0);
        noIndex("buffer -1", () -> x.write(-1, 0));
        noIndex("buffer 2", () -> x.write(2, 26));
        noArgument("letter -1", () -> x.write(0, -1));
        noArgument("letter 26", () -> x.write(0, 26));
        int move = move(2);
        x.run(move);
        due("behind the cursor", x.write(0, 3), 3);
        due("it stays", x.cursor(0, 0), 2);
        for (int i = 4; i <= 40; i++) {
            due("up to 40", x.write(0, 1), i);
        }
        noState("the 41st", () -> x.write(0, 1));
        noArgument("the argument first", () -> x.write(0, 26));
        due("length", x.length(0), 40);
        due("the other one still", x.write(1, 7), 2);
        x.start(move);
        noState("stepped", () -> x.write(1, 1));
        noIndex("stepped, the index first", () -> x.write(2, 1));
        noArgument("stepped, the argument first", () -> x.write(1, -1));
        x.giveUp();
        due("behind it", x.write(1, 7), 3);
    }

    // ---- Promise 8: run

    private static void p8() {
        Call[] parts = {
            PromiseTest::runNumbers, PromiseTest::runNames, PromiseTest::runBranches, PromiseTest::runLoops, PromiseTest::runAstray,
            PromiseTest::runFunctions, PromiseTest::runSlots, PromiseTest::runStandards, PromiseTest::runReturns, PromiseTest::runTries,
            PromiseTest::runFinallies, PromiseTest::runGenerators, PromiseTest::runAsked, PromiseTest::runBarred, PromiseTest::runClosing,
            PromiseTest::runOptions, PromiseTest::runStays, PromiseTest::runInserts, PromiseTest::runErases, PromiseTest::runMoves,
            PromiseTest::runCursors, PromiseTest::runEach, PromiseTest::runEachOrder, PromiseTest::runBuffers, PromiseTest::runReload, PromiseTest::runHook,
            PromiseTest::runHookErrors, PromiseTest::runDepth, PromiseTest::runUndone, PromiseTest::runWrong};
        for (Call part : parts) {
            x = new Macroloom();
            part.made();
        }
    }

    private static void runNumbers() {
        runs("NUMBER", num(-9999), -9999);
        costs("NUMBER", num(42), 42, 1);
        int big = num(9999), small = num(-9999), seven = num(7), two = num(2), less = num(-2), zero = num(0);
        costs("SUM", two(Macroloom.SUM, seven, less), 5, 3);
        runs("SUM, kept above", two(Macroloom.SUM, big, seven), 9999);
        runs("SUM, kept below", two(Macroloom.SUM, small, less), -9999);
        runs("MINUS", two(Macroloom.MINUS, seven, less), 9);
        runs("MINUS", two(Macroloom.MINUS, less, seven), -9);
        runs("MINUS, kept below", two(Macroloom.MINUS, small, big), -9999);
        runs("TIMES", two(Macroloom.TIMES, seven, less), -14);
        runs("TIMES, kept above", two(Macroloom.TIMES, small, small), 9999);
        runs("TIMES, kept below", two(Macroloom.TIMES, small, big), -9999);
        runs("OVER", two(Macroloom.OVER, seven, two), 3);
        runs("OVER, toward 0", two(Macroloom.OVER, seven, less), -3);
        runs("OVER, toward 0", two(Macroloom.OVER, num(-7), two), -3);
        runs("OVER 0", two(Macroloom.OVER, seven, zero), ERROR + Macroloom.ZERO);
        runs("0 OVER", two(Macroloom.OVER, zero, seven), 0);
        runs("BELOW", two(Macroloom.BELOW, two, seven), 1);
        runs("BELOW", two(Macroloom.BELOW, seven, two), 0);
        runs("BELOW the same", two(Macroloom.BELOW, two, two), 0);
        runs("SAME", two(Macroloom.SAME, two, num(2)), 1);
        runs("SAME", two(Macroloom.SAME, two, less), 0);
        int function = fun(0, seven), generator = gen(seven);
        int[] kinds = {Macroloom.SUM, Macroloom.MINUS, Macroloom.TIMES, Macroloom.OVER, Macroloom.BELOW};
        for (int kind : kinds) {
            costs("TYPE of b", two(kind, seven, function), ERROR + Macroloom.TYPE, 3);
            costs("TYPE of a", two(kind, generator, zero), ERROR + Macroloom.TYPE, 3);
        }
        runs("SAME functions", two(Macroloom.SAME, function, function), 0);
        runs("SAME generators", two(Macroloom.SAME, generator, generator), 0);
        runs("SAME of kinds", two(Macroloom.SAME, function, zero), 0);
        runs("SAME of function and generator", two(Macroloom.SAME, function, generator), 0);
        runs("the same function", then(let(0, function), two(Macroloom.SAME, name(0), name(0))), 1);
        runs("the same generator", then(let(0, generator), two(Macroloom.SAME, name(0), name(0))), 1);
        costs("an error of a", two(Macroloom.SUM, fail(4), seven), ERROR + 4, 3);
        runs("an error of b", two(Macroloom.SUM, fun(0, seven), fail(4)), ERROR + 4);
    }

    private static void runNames() {
        costs("UNBOUND", name(0), ERROR + Macroloom.UNBOUND, 1);
        costs("PUT UNBOUND", put(3, num(4)), ERROR + Macroloom.UNBOUND, 2);
        costs("LET", let(7, num(4)), 4, 2);
        costs("LET, NAME", then(let(7, num(4)), name(7)), 4, 4);
        runs("gone behind the run", name(7), ERROR + Macroloom.UNBOUND);
        runs("LET, PUT", then(let(7, num(4)), put(7, num(5)), name(7)), 5);
        runs("LET again", then(let(7, num(4)), let(7, num(5)), name(7)), 5);
        runs("another name", then(let(7, num(4)), name(6)), ERROR + Macroloom.UNBOUND);
        runs("an inner scope", then(let(0, num(4)), one(Macroloom.SCOPE, name(0))), 4);
        runs("LET there", then(let(0, num(4)), one(Macroloom.SCOPE, let(0, num(5))), name(0)), 4);
        runs("LET there", then(let(0, num(4)), one(Macroloom.SCOPE, then(let(0, num(5)), name(0)))), 5);
        runs("PUT there", then(let(0, num(4)), one(Macroloom.SCOPE, put(0, num(5))), name(0)), 5);
        runs("PUT behind LET there", then(let(0, num(4)), one(Macroloom.SCOPE, then(let(0, num(5)), put(0, num(6)))), name(0)), 4);
        runs("gone behind the scope", then(one(Macroloom.SCOPE, let(1, num(4))), name(1)), ERROR + Macroloom.UNBOUND);
        costs("PUT sees what its part binds", put(1, let(1, num(4))), 4, 3);
        runs("LET of a function", then(let(0, fun(0, num(1))), name(0)), FUN);
        runs("an error of LET", then(attempt(1, let(0, fail(1)), num(1)), name(0)), ERROR + Macroloom.UNBOUND);
    }

    private static void runBranches() {
        int one = num(1), two = num(2), zero = num(0);
        costs("IF", iff(one, two, zero), 2, 3);
        costs("IF not", iff(zero, two, one), 1, 3);
        runs("IF below 0", iff(num(-1), two, one), 2);
        runs("IF function", iff(fun(0, one), two, one), 2);
        runs("IF generator", iff(gen(one), two, one), 2);
        costs("IF error", iff(fail(3), two, one), ERROR + 3, 3);
        runs("error of b", iff(one, fail(3), one), ERROR + 3);
        runs("error of c", iff(zero, one, fail(3)), ERROR + 3);
        costs("THEN", then(one, two), 2, 3);
        costs("THEN, error of a", then(fail(3), two), ERROR + 3, 3);
        costs("SCOPE", one(Macroloom.SCOPE, two), 2, 2);
    }

    private static void runLoops() {
        int one = num(1);
        costs("BREAK at once", loop(0, leave(0, num(5))), 5, 3);
        int up = put(0, two(Macroloom.SUM, name(0), one));
        int again = two(Macroloom.BELOW, name(0), num(4));
        int counted = then(let(0, num(0)), loop(2, then(up, iff(again, num(9), leave(2, name(0))))));
        costs("counted", counted, 4, 4 + 3 * 10 + 11);
        int skipping = then(let(0, num(0)), loop(2, then(up, iff(again, one(Macroloom.NEXT, 2), num(9)), leave(2, name(0)))));
        runs("NEXT", skipping, 4);
        runs("the outer label", loop(0, then(loop(1, leave(0, num(5))), num(1))), 5);
        costs("the inner one of two", loop(0, then(loop(0, leave(0, num(5))), leave(0, num(6)))), 6, 7);
        runs("NEXT of the outer one", then(let(0, num(0)), loop(0, then(up, iff(again, loop(1, one(Macroloom.NEXT, 0)), leave(0, name(0)))))), 4);
        runs("a new scope each time", loop(0, then(attempt(2, then(name(1), leave(0, num(7))), num(0)), let(1, one), leave(0, num(8)))), 8);
        int known = attempt(2, then(name(1), leave(0, num(7))), num(0));
        x.setBudget(600);
        runs("a new scope each time", then(let(0, num(0)), loop(0, then(known, let(1, one), up, iff(again, num(9), leave(0, num(8)))))), 8);
        runs("a function keeps the scope of its time", then(let(0, num(0)), loop(0, then(let(1, name(0)), put(0, one),
            leave(0, apply(fun(2, two(Macroloom.SUM, name(1), name(0))), num(0)))))), 1);
        runs("an error", loop(0, fail(6)), ERROR + 6);
        x.setBudget(10);
        costs("for ever", loop(3, num(1)), ERROR + Macroloom.BUDGET, 10);
        costs("NEXT for ever", loop(3, one(Macroloom.NEXT, 3)), ERROR + Macroloom.BUDGET, 10);
        costs("BREAK of BREAK", loop(1, leave(1, leave(1, num(3)))), 3, 4);
    }

    private static void runAstray() {
        int stays = stay(0, num(3));
        costs("BREAK", leave(0, stays), ERROR + Macroloom.ASTRAY, 3);
        due("behind its part", x.register(0), 3);
        costs("BREAK of another label", loop(1, leave(0, num(1))), ERROR + Macroloom.ASTRAY, 3);
        costs("NEXT", one(Macroloom.NEXT, 0), ERROR + Macroloom.ASTRAY, 1);
        costs("NEXT of another label", loop(1, one(Macroloom.NEXT, 0)), ERROR + Macroloom.ASTRAY, 2);
        costs("RETURN", one(Macroloom.RETURN, stay(1, num(4))), ERROR + Macroloom.ASTRAY, 3);
        due("behind its part", x.register(1), 4);
        costs("YIELD", yielded(stay(2, num(5))), ERROR + Macroloom.ASTRAY, 3);
        due("behind its part", x.register(2), 5);
        costs("out of a function", loop(0, apply(fun(0, leave(0, num(1))), num(2))), ERROR + Macroloom.ASTRAY, 6);
        costs("NEXT out of a function", loop(0, apply(fun(0, one(Macroloom.NEXT, 0)), num(2))), ERROR + Macroloom.ASTRAY, 5);
        costs("out of a generator", loop(0, ask(gen(leave(0, num(1))))), ERROR + Macroloom.ASTRAY, 5);
        x.define(0, 0, leave(0, num(1)), NONE);
        costs("out of a slot", loop(0, call(0, NONE, NONE)), ERROR + Macroloom.ASTRAY, 4);
        runs("YIELD in a function", ask(gen(apply(fun(0, yielded(num(1))), num(2)))), ERROR + Macroloom.ASTRAY);
        x.define(1, 2, num(1), yielded(num(1)));
        runs("YIELD in a standard", ask(gen(call(1, NONE, NONE))), ERROR + Macroloom.ASTRAY);
        x.define(2, 2, num(1), one(Macroloom.RETURN, num(1)));
        runs("RETURN in a standard", apply(fun(0, call(2, NONE, NONE)), num(2)), ERROR + Macroloom.ASTRAY);
        x.define(3, 2, num(1), leave(0, num(1)));
        runs("BREAK in a standard", loop(0, call(3, num(1), NONE)), ERROR + Macroloom.ASTRAY);
        x.define(4, 2, num(1), loop(0, leave(0, num(1))));
        runs("a loop within a standard", call(4, num(1), NONE), 1);
        runs("it can be caught", attempt(0, one(Macroloom.NEXT, 0), name(0)), Macroloom.ASTRAY);
    }

    private static void runFunctions() {
        runs("the first function", fun(0, num(1)), FUN);
        runs("the third function", then(fun(0, num(1)), fun(0, num(1)), fun(0, num(1))), FUN + 2);
        runs("numbered anew in each run", fun(0, num(1)), FUN);
        runs("apart from generators", then(gen(num(1)), fun(0, num(1))), FUN);
        costs("APPLY", apply(fun(0, two(Macroloom.SUM, name(0), num(1))), num(4)), 5, 6);
        costs("APPLY of a number", apply(num(1), stay(0, num(4))), ERROR + Macroloom.TYPE, 4);
        due("behind b", x.register(0), 4);
        costs("APPLY of a generator", apply(gen(num(1)), num(4)), ERROR + Macroloom.TYPE, 3);
        runs("an error of a", apply(fail(3), stay(0, num(5))), ERROR + 3);
        due("not as far as b", x.register(0), 4);
        runs("it keeps its scope", then(let(1, num(3)), let(0, fun(2, two(Macroloom.SUM, name(1), name(2)))), let(1, num(4)), apply(name(0), num(5))), 9);
        runs("not the scope of its call", then(let(0, fun(2, name(1))), one(Macroloom.SCOPE, then(let(1, num(4)), apply(name(0), num(5))))), ERROR + Macroloom.UNBOUND);
        runs("each call has a scope", then(let(0, fun(2, let(1, num(4)))), apply(name(0), num(5)), name(1)), ERROR + Macroloom.UNBOUND);
        runs("PUT through it", then(let(1, num(3)), apply(fun(2, put(1, name(2))), num(8)), name(1)), 8);
        int counter = one(Macroloom.SCOPE, then(let(1, num(0)), fun(2, put(1, two(Macroloom.SUM, name(1), name(2))))));
        runs("a kept cell", then(let(0, counter), apply(name(0), num(5)), apply(name(0), num(6))), 11);
        runs("a function of a function", apply(apply(fun(0, fun(1, two(Macroloom.MINUS, name(0), name(1)))), num(9)), num(2)), 7);
        runs("its value is a function", apply(fun(0, name(0)), fun(0, num(1))), FUN + 1);
    }

    private static void runSlots() {
        int sum = two(Macroloom.SUM, name(0), two(Macroloom.TIMES, name(1), num(10)));
        costs("UNBOUND", call(0, stay(0, num(4)), NONE), ERROR + Macroloom.UNBOUND, 3);
        due("behind its parts", x.register(0), 4);
        x.define(0, 2, sum, NONE);
        costs("none", call(0, NONE, NONE), 0, 6);
        costs("one", call(0, num(3), NONE), 3, 7);
        costs("two", call(0, num(3), num(4)), 43, 8);
        x.define(1, 1, name(0), NONE);
        costs("one too many", call(1, num(3), stay(0, num(5))), ERROR + Macroloom.TYPE, 4);
        due("behind its parts", x.register(0), 5);
        runs("none", call(1, NONE, NONE), 0);
        x.define(2, 0, num(6), NONE);
        runs("none", call(2, NONE, NONE), 6);
        runs("too many", call(2, num(1), NONE), ERROR + Macroloom.TYPE);
        runs("too many", call(2, num(1), num(1)), ERROR + Macroloom.TYPE);
        x.define(3, 1, name(1), NONE);
        runs("no second parameter", call(3, num(1), NONE), ERROR + Macroloom.UNBOUND);
        x.define(3, 0, name(0), NONE);
        runs("no parameter", call(3, NONE, NONE), ERROR + Macroloom.UNBOUND);
        x.define(4, 0, name(5), NONE);
        runs("no outer scope", then(let(5, num(1)), call(4, NONE, NONE)), ERROR + Macroloom.UNBOUND);
        x.define(5, 2, fun(2, two(Macroloom.SUM, name(0), name(1))), NONE);
        runs("its scope is kept", apply(call(5, num(3), num(4)), num(0)), 7);
        runs("arguments in their order", call(0, stay(0, num(1)), stay(0, num(2))), 21);
        due("the second one later", x.register(0), 2);
        runs("an error of an argument", call(0, fail(3), stay(0, num(7))), ERROR + 3);
        due("the second one not", x.register(0), 2);
        runs("LET instead of a parameter", then(two(Macroloom.RELOAD, 1, then(let(0, num(5)), name(0))), call(1, num(3), NONE)), 5);
    }

    private static void runStandards() {
        int first = name(0), second = name(1);
        x.define(0, 2, second, two(Macroloom.SUM, first, num(1)));
        costs("it sees the first one", call(0, num(5), NONE), 6, 6);
        costs("it sees 0 for the first one", call(0, NONE, NONE), 1, 5);
        costs("not done for two", call(0, num(5), num(9)), 9, 4);
        x.define(1, 2, second, second);
        runs("it does not see the second one", call(1, num(5), NONE), ERROR + Macroloom.UNBOUND);
        x.define(2, 2, two(Macroloom.SUM, first, second), then(let(0, num(50)), let(1, num(70)), num(1)));
        runs("it is done in the new scope", call(2, num(5), NONE), 51);
        int fails = fail(8);
        x.define(3, 2, second, fails);
        costs("an error", call(3, num(5), NONE), ERROR + 8, 4);
        trace("an error", fails);
        x.define(4, 2, second, then(two(Macroloom.RELOAD, 4, num(33)), num(2)));
        runs("the body behind the standard", call(4, NONE, NONE), 33);
        x.define(5, 2, second, fun(0, num(1)));
        runs("its value can be a function", call(5, NONE, NONE), FUN);
    }

    private static void runReturns() {
        int two = num(2);
        costs("of a function", apply(fun(0, then(one(Macroloom.RETURN, num(4)), num(5))), two), 4, 6);
        runs("out of loops", apply(fun(0, loop(0, loop(1, one(Macroloom.RETURN, num(4))))), two), 4);
        x.define(0, 0, then(one(Macroloom.RETURN, num(4)), num(5)), NONE);
        runs("of a slot", call(0, NONE, NONE), 4);
        runs("the innermost body", apply(fun(0, then(apply(fun(0, one(Macroloom.RETURN, num(4))), two), num(6))), two), 6);
        runs("of a generator", then(let(0, gen(then(one(Macroloom.RETURN, num(4)), yielded(num(5))))), ask(name(0))), -1);
        runs("behind that", then(ask(gen(one(Macroloom.RETURN, num(4)))), num(9)), 9);
        runs("RETURN of RETURN", apply(fun(0, one(Macroloom.RETURN, one(Macroloom.RETURN, num(4)))), two), 4);
        runs("through FINALLY", apply(fun(0, last(one(Macroloom.RETURN, num(4)), stay(0, num(6)))), two), 4);
        due("through FINALLY", x.register(0), 6);
        runs("not caught", apply(fun(0, attempt(1, one(Macroloom.RETURN, num(4)), num(9))), two), 4);
        runs("RETURN of a function", apply(fun(0, one(Macroloom.RETURN, fun(1, two))), two), FUN + 1);
    }

    private static void runTries() {
        int zero = two(Macroloom.OVER, num(1), num(0));
        costs("caught", attempt(3, zero, name(3)), Macroloom.ZERO, 5);
        costs("nothing to catch", attempt(3, num(4), name(3)), 4, 2);
        runs("an error of c", attempt(3, zero, fail(9)), ERROR + 9);
        due("it has no cause", x.cause(), ERROR);
        runs("a new scope", then(attempt(3, zero, let(4, num(1))), name(4)), ERROR + Macroloom.UNBOUND);
        runs("its cell is there alone", then(attempt(3, zero, num(1)), name(3)), ERROR + Macroloom.UNBOUND);
        runs("its outer scope", then(let(4, num(6)), attempt(3, zero, two(Macroloom.SUM, name(4), name(3)))), 4);
        runs("it hides", then(let(3, num(6)), attempt(3, zero, put(3, num(7))), name(3)), 6);
        runs("the scope where the error came about", attempt(3, one(Macroloom.SCOPE, then(let(5, num(1)), zero)), name(5)), ERROR + Macroloom.UNBOUND);
        runs("LET of b stands", then(attempt(3, then(let(5, num(8)), zero), num(1)), name(5)), 8);
        runs("BREAK is none", loop(0, attempt(3, leave(0, num(4)), num(5))), 4);
        runs("nested", attempt(3, attempt(4, zero, fail(2)), name(3)), 2);
        runs("THROW of 0", attempt(3, fail(0), two(Macroloom.SUM, name(3), num(7))), 7);
        runs("THROW of -7 is an ordinary error", attempt(3, fail(-7), name(3)), -7);
        runs("THROW", fail(9999), ERROR + 9999);
        runs("THROW of a function", one(Macroloom.THROW, fun(0, num(1))), ERROR + Macroloom.TYPE);
        runs("THROW of a generator", one(Macroloom.THROW, gen(num(1))), ERROR + Macroloom.TYPE);
        x.setBudget(4);
        runs("BUDGET is not caught", attempt(3, then(num(1), num(2), num(3)), num(4)), ERROR + Macroloom.BUDGET);
    }

    private static void runFinallies() {
        int note = stay(0, num(6));
        costs("a value", last(num(4), note), 4, 4);
        due("done", x.register(0), 6);
        runs("an error", last(fail(3), stay(1, num(6))), ERROR + 3);
        due("done", x.register(1), 6);
        runs("BREAK", loop(0, last(leave(0, num(4)), stay(2, num(6)))), 4);
        due("done", x.register(2), 6);
        runs("BREAK, with another one in b", loop(0, last(leave(0, num(4)), loop(1, leave(1, num(5))))), 4);
        runs("BREAK, with the same label in b", loop(0, last(leave(0, num(4)), loop(0, leave(0, num(5))))), 4);
        runs("b ends by an error", last(num(4), fail(5)), ERROR + 5);
        runs("b ends by BREAK", loop(0, last(fail(5), leave(0, num(7)))), 7);
        runs("b ends by BREAK", loop(0, last(leave(0, num(5)), leave(0, num(7)))), 7);
        runs("b ends by RETURN", apply(fun(0, last(fail(5), one(Macroloom.RETURN, num(7)))), num(1)), 7);
        int up = put(0, two(Macroloom.SUM, name(0), num(1)));
        int again = iff(two(Macroloom.BELOW, name(0), num(3)), one(Macroloom.NEXT, 0), num(1));
        runs("b ends by NEXT", then(let(0, num(0)), loop(0, last(then(up, leave(0, name(0))), again))), 3);
        runs("NEXT through it", then(let(0, num(0)), loop(0, then(up, iff(two(Macroloom.BELOW, name(0), num(3)),
            last(one(Macroloom.NEXT, 0), up), leave(0, name(0)))))), 3);
        runs("caught behind it", attempt(1, last(fail(5), num(1)), name(1)), 5);
        runs("the later one is caught", attempt(1, last(fail(5), fail(6)), name(1)), 6);
        x.run(stay(0, num(0)));
        x.setBudget(3);
        runs("BUDGET does not heed it", last(then(num(1), num(2)), stay(0, num(9))), ERROR + Macroloom.BUDGET);
        due("not done", x.register(0), 0);
    }

    private static void runGenerators() {
        runs("the first generator", gen(num(1)), GEN);
        runs("the second one", then(gen(num(1)), gen(num(1))), GEN + 1);
        runs("apart from functions", then(fun(0, num(1)), gen(num(1))), GEN);
        int g = name(0), asked = ask(g);
        int body = then(yielded(num(4)), yielded(num(5)), num(6));
        costs("first", then(let(0, gen(body)), asked), 4, 8);
        runs("second", then(let(0, gen(body)), asked, asked), 5);
        runs("spent", then(let(0, gen(body)), asked, asked, asked), -1);
        runs("spent already", then(let(0, gen(body)), asked, asked, asked, asked), -1);
        runs("never asked", then(let(0, gen(stay(0, num(4)))), num(1)), 1);
        due("never begun", x.register(0), 0);
        runs("YIELD is 0 when it goes on", then(let(0, gen(stay(0, two(Macroloom.SUM, yielded(num(4)), num(9))))), asked, asked), -1);
        due("YIELD is 0 when it goes on", x.register(0), 9);
        runs("it keeps its scope", then(let(1, num(3)), let(0, gen(yielded(name(1)))), let(1, num(5)), asked), 5);
        runs("its own scope", then(let(0, gen(then(let(1, num(3)), yielded(name(1)), yielded(name(1))))), asked,
            attempt(2, name(1), put(0, g)), asked), 3);
        runs("two of them", then(let(0, gen(body)), let(1, gen(body)), asked, asked, ask(name(1))), 4);
        runs("in a loop", then(let(0, gen(loop(0, then(yielded(num(4)), one(Macroloom.NEXT, 0))))), asked, asked, asked), 4);
        runs("a value of any kind", then(let(0, gen(yielded(fun(0, num(1))))), asked), FUN);
        runs("the value of a body does not matter", then(let(0, gen(num(4))), asked), -1);
    }

    private static void runAsked() {
        int g = name(0), asked = ask(g);
        costs("a number", ask(num(1)), ERROR + Macroloom.TYPE, 2);
        costs("a function", ask(fun(0, num(1))), ERROR + Macroloom.TYPE, 2);
        runs("itself", then(let(0, gen(asked)), asked), ERROR + Macroloom.TYPE);
        runs("itself, caught", then(let(0, gen(yielded(attempt(1, asked, name(1))))), asked), Macroloom.TYPE);
        runs("through another one", then(let(1, gen(ask(name(0)))), let(0, gen(ask(name(1)))), asked), ERROR + Macroloom.TYPE);
        runs("an error", then(let(0, gen(then(yielded(num(1)), fail(5)))), asked, asked), ERROR + 5);
        runs("spent by an error", then(let(0, gen(fail(5))), attempt(1, asked, num(1)), asked), -1);
        runs("RETURN behind a YIELD", then(let(0, gen(then(yielded(num(1)), one(Macroloom.RETURN, num(5))))), asked, asked), -1);
        runs("FINALLY in its body", then(let(0, gen(last(yielded(num(1)), stay(0, num(5))))), asked, asked), -1);
        due("FINALLY in its body", x.register(0), 5);
        runs("YIELD in FINALLY", then(let(0, gen(last(fail(3), yielded(num(1))))), attempt(1, asked, num(0)), attempt(1, asked, name(1))), 3);
        runs("a generator asks another one", then(let(1, gen(then(yielded(num(7)), yielded(num(8))))),
            let(0, gen(then(ask(name(1)), yielded(ask(name(1)))))), asked), 8);
    }

    private static void runBarred() {
        int g = name(0), asked = ask(g);
        costs("the part of EACH", ask(gen(one(Macroloom.EACH, yielded(stay(0, num(2)))))), ERROR + Macroloom.ASTRAY, 6);
        due("behind its part", x.register(0), 2);
        runs("the c of OPTION", ask(gen(option(0, num(1), yielded(num(2))))), ERROR + Macroloom.ASTRAY);
        runs("the b of OPTION", ask(gen(option(0, yielded(num(2)), num(1)))), 2);
        runs("deeper", ask(gen(option(0, num(1), then(num(1), iff(num(1), yielded(num(2)), num(3)))))), ERROR + Macroloom.ASTRAY);
        runs("behind an OPTION", ask(gen(then(option(0, num(1), num(3)), yielded(num(2))))), 2);
        runs("behind an EACH", ask(gen(then(one(Macroloom.EACH, num(3)), yielded(num(2))))), 2);
        runs("ASK within it", option(0, num(1), ask(gen(yielded(num(2))))), 2);
        runs("ASK within EACH", then(let(0, gen(yielded(num(2)))), let(1, num(0)), one(Macroloom.EACH, put(1, asked)), name(1)), 2);
        runs("the option when it rests", option(0, num(1), then(let(0, gen(then(yielded(get(0)), yielded(get(0))))), asked)), 1);
    }

    private static void runClosing() {
        int asked = ask(name(0));
        costs("closed", then(let(0, gen(last(yielded(num(4)), stay(0, num(6))))), asked), 4, 10);
        due("closed", x.register(0), 6);
        runs("its error is that of the run", then(let(0, gen(last(yielded(num(4)), fail(6)))), asked), ERROR + 6);
        runs("YIELD is astray then", then(let(0, gen(last(yielded(num(4)), yielded(num(5))))), asked), ERROR + Macroloom.ASTRAY);
        runs("it can be caught there", then(let(0, gen(last(yielded(num(4)), attempt(1, yielded(num(5)), stay(1, name(1)))))), asked), 4);
        due("it can be caught there", x.register(1), Macroloom.ASTRAY);
        int note = put(5, two(Macroloom.SUM, two(Macroloom.TIMES, name(5), num(10)), num(1)));
        int noteTwo = put(5, two(Macroloom.SUM, two(Macroloom.TIMES, name(5), num(10)), num(2)));
        int both = then(let(5, num(0)), let(0, gen(last(yielded(num(4)), note))), let(1, gen(last(yielded(num(4)), stay(2, noteTwo)))),
            ask(name(1)), asked);
        runs("the lowest first", both, 4);
        due("the lowest first", x.register(2), 12);
        x = new Macroloom();
        int first = last(yielded(num(4)), fail(6)), second = last(yielded(num(5)), stay(3, num(7)));
        runs("no further one", then(let(0, gen(first)), let(1, gen(second)), ask(name(0)), ask(name(1))), ERROR + 6);
        due("no further one", x.register(3), 0);
        runs("none after an error", then(let(1, gen(second)), ask(name(1)), fail(2)), ERROR + 2);
        due("none after an error", x.register(3), 0);
        runs("asked while it is closed", then(let(0, gen(last(yielded(num(4)), stay(3, attempt(1, ask(name(0)), name(1)))))), ask(name(0))), 4);
        due("asked while it is closed", x.register(3), Macroloom.TYPE);
        x.setBudget(9);
        runs("closing costs steps", then(let(0, gen(last(yielded(num(4)), stay(0, num(6))))), ask(name(0))), ERROR + Macroloom.BUDGET);
        x.setBudget(300);
        runs("a loop left by b", then(let(0, gen(then(loop(0, last(yielded(num(4)), leave(0, num(1)))), stay(0, num(8))))), ask(name(0))), 4);
        due("a loop left by b", x.register(0), 8);
        runs("RETURN goes past a loop", then(let(0, gen(then(nextAndYield(), stay(0, num(7))))), ask(name(0))), 4);
        due("RETURN goes past a loop", x.register(0), 8);
        x = new Macroloom();
        int later = last(yielded(num(5)), stay(1, num(9)));
        runs("a new one comes to rest", then(let(0, gen(last(yielded(num(4)), ask(gen(later))))), ask(name(0))), 4);
        due("it is closed too", x.register(1), 9);
        int high = then(let(1, gen(last(yielded(num(4)), ask(gen(last(yielded(num(5)), stay(2, num(3)))))))), ask(name(1)));
        runs("rest by rest", high, 4);
        due("rest by rest", x.register(2), 3);
        runCallsWhileClosing();
    }

    /** A LOOP whose part goes on by NEXT, and rests the second time. */
    private static int nextAndYield() {
        int counts = put(5, two(Macroloom.SUM, name(5), num(1)));
        int rests = iff(same(name(5), num(1)), again(0), yielded(num(4)));
        return then(let(5, num(0)), loop(0, then(counts, rests)));
    }

    /** Whatever a generator that is being closed calls, the outcome is the value of what was run. */
    private static void runCallsWhileClosing() {
        x = new Macroloom();
        int both = two(Macroloom.SUM, name(0), name(1));
        x.define(0, 2, stay(0, both), stay(3, num(30)));
        x.define(1, 1, back(stay(1, name(0))), NONE);
        int[] calls = {call(0, num(12), NONE), call(1, num(5), NONE), then(hook(0), insert(4)),
            apply(fun(0, back(stay(2, name(0)))), num(6)), ask(gen(stay(2, num(7)))), ask(gen(yielded(stay(2, num(8)))))};
        int[] registers = {0, 1, 0, 2, 2, 2}, kept = {42, 5, 34, 6, 7, 8};
        for (int i = 0; i < calls.length; i++) {
            int asks = ask(gen(last(yielded(num(3)), calls[i])));
            runs("call " + i, asks, 3);
            due("call " + i + " was made", x.register(registers[i]), kept[i]);
            runs("call " + i + " behind a function", then(asks, fun(0, both)), FUN);
        }
        due("the letter stands", x.letter(0, 0), 4);
    }

    private static void runOptions() {
        x.setOption(1, 5);
        costs("GET", get(1), 5, 1);
        costs("OPTION", option(1, num(7), get(1)), 7, 3);
        due("again what it was", x.option(1), 5);
        runs("another option", option(1, num(7), get(2)), 0);
        runs("nested", option(1, num(7), then(option(1, num(8), num(0)), get(1))), 7);
        runs("b sees the old one", option(1, two(Macroloom.SUM, get(1), num(1)), get(1)), 6);
        runs("an error of c", then(attempt(0, option(1, num(7), fail(3)), num(0)), get(1)), 5);
        runs("an error of b", then(attempt(0, option(1, fail(3), num(0)), num(0)), get(1)), 5);
        runs("BREAK", then(loop(0, option(1, num(7), leave(0, num(1)))), get(1)), 5);
        runs("RETURN", then(apply(fun(0, option(1, num(7), one(Macroloom.RETURN, num(1)))), num(0)), get(1)), 5);
        runs("dynamic", then(let(0, fun(1, get(1))), option(1, num(7), apply(name(0), num(0)))), 7);
        runs("a function", option(1, fun(0, num(4)), apply(get(1), num(0))), 4);
        runs("a function", option(1, fun(0, num(4)), get(1)), FUN);
        due("at last", x.option(1), 5);
    }

    private static void runStays() {
        costs("STAY", stay(0, num(7)), 7, 2);
        due("register", x.register(0), 7);
        runs("STAY of a function", stay(0, fun(0, num(1))), ERROR + Macroloom.TYPE);
        runs("STAY of a generator", stay(0, gen(num(1))), ERROR + Macroloom.TYPE);
        due("register", x.register(0), 7);
        runs("it stands", then(stay(3, num(8)), fail(1)), ERROR + 1);
        due("it stands", x.register(3), 8);
    }

    private static void runInserts() {
        costs("INSERT", insert(0), 0, 2);
        runs("INSERT", insert(25), 25);
        text("INSERT", 0, "az");
        cursors("INSERT", 0, 2, NONE, NONE, NONE, 0);
        runs("-1", insert(-1), ERROR + Macroloom.RANGE);
        runs("26", insert(26), ERROR + Macroloom.RANGE);
        costs("a function", one(Macroloom.INSERT, fun(0, num(1))), ERROR + Macroloom.TYPE, 2);
        x.run(then(one(Macroloom.CURSOR, num(0)), one(Macroloom.CURSOR, num(1)), one(Macroloom.CURSOR, num(2)), move(1)));
        cursors("ahead", 0, 1, 0, 1, 2, 0);
        runs("in the midst", insert(1), 1);
        text("in the midst", 0, "abz");
        cursors("those farther on alone", 0, 2, 0, 1, 3, 0);
        while (x.length(0) < 40) {
            x.write(0, 5);
        }
        runs("40 letters", insert(3), ERROR + Macroloom.RANGE);
        runs("40 letters, no number", one(Macroloom.INSERT, gen(num(1))), ERROR + Macroloom.TYPE);
        runs("the other one", then(one(Macroloom.BUFFER, num(1)), insert(3)), 3);
        text("the other one", 1, "d");
    }

    private static void runErases() {
        int erase = bare(Macroloom.ERASE);
        costs("nothing ahead", erase, ERROR + Macroloom.RANGE, 1);
        write(0, "abcdef");
        runs("nothing ahead", erase, ERROR + Macroloom.RANGE);
        x.run(then(move(3), one(Macroloom.CURSOR, num(2)), one(Macroloom.CURSOR, num(3)), one(Macroloom.CURSOR, num(5))));
        cursors("ahead", 0, 3, 2, 3, 5, 0);
        runs("ERASE", erase, 2);
        text("ERASE", 0, "abdef");
        cursors("the others there are gone", 0, 2, NONE, NONE, 4, 0);
        runs("again", then(move(1), erase), 0);
        text("again", 0, "bdef");
        cursors("again", 0, 0, NONE, NONE, 3, 0);
        runs("at the end", then(move(4), erase), 5);
        cursors("at the end", 0, 3, NONE, NONE, NONE, 0);
        x.run(then(one(Macroloom.CURSOR, num(0)), move(2)));
        runs("one ahead stays", erase, 3);
        cursors("one ahead stays", 0, 1, 0, NONE, NONE, 0);
        text("one ahead stays", 0, "be");
    }

    private static void runMoves() {
        write(0, "abc");
        int here = bare(Macroloom.HERE), letter = bare(Macroloom.LETTER), length = bare(Macroloom.LENGTH);
        costs("HERE", here, 0, 1);
        costs("LETTER", letter, 0, 1);
        costs("LENGTH", length, 3, 1);
        costs("MOVE", move(2), 2, 2);
        runs("HERE", here, 2);
        runs("LETTER", letter, 2);
        runs("MOVE to the end", move(3), 3);
        runs("LETTER at the end", letter, -1);
        runs("MOVE beyond", move(4), ERROR + Macroloom.RANGE);
        runs("MOVE ahead", move(-1), ERROR + Macroloom.RANGE);
        runs("MOVE to a function", one(Macroloom.MOVE, fun(0, here)), ERROR + Macroloom.TYPE);
        runs("HERE", here, 3);
        runs("the other text", then(one(Macroloom.BUFFER, num(1)), two(Macroloom.SUM, here, two(Macroloom.SUM, letter, length))), -1);
    }

    private static void runCursors() {
        write(0, "abc");
        costs("CURSOR", one(Macroloom.CURSOR, num(3)), 1, 2);
        runs("CURSOR", one(Macroloom.CURSOR, num(0)), 2);
        runs("too far", one(Macroloom.CURSOR, num(4)), ERROR + Macroloom.RANGE);
        runs("too near", one(Macroloom.CURSOR, num(-1)), ERROR + Macroloom.RANGE);
        runs("no number", one(Macroloom.CURSOR, gen(num(1))), ERROR + Macroloom.TYPE);
        runs("CURSOR", one(Macroloom.CURSOR, num(1)), 3);
        runs("the fifth", one(Macroloom.CURSOR, num(1)), ERROR + Macroloom.RANGE);
        runs("the fifth, no number", one(Macroloom.CURSOR, gen(num(1))), ERROR + Macroloom.TYPE);
        cursors("four", 0, 0, 3, 0, 1, 0);
        x.run(then(move(1), bare(Macroloom.ERASE)));
        cursors("two went", 0, 0, 2, NONE, NONE, 0);
        runs("the lowest that is free", one(Macroloom.CURSOR, num(2)), 2);
        cursors("none of the other text", 1, 0, NONE, NONE, NONE, 0);
        x = new Macroloom();
        runs("at the place 0 of nothing", one(Macroloom.CURSOR, num(0)), 1);
    }

    private static void runEach() {
        write(0, "abcd");
        x.run(then(one(Macroloom.CURSOR, num(4)), one(Macroloom.CURSOR, num(2)), one(Macroloom.CURSOR, num(2))));
        int note = put(0, two(Macroloom.SUM, two(Macroloom.TIMES, name(0), num(10)), bare(Macroloom.HERE)));
        runs("by rising places", then(let(0, num(0)), one(Macroloom.EACH, note), name(0)), 224);
        costs("how many", one(Macroloom.EACH, num(9)), 4, 5);
        runs("each inserts", one(Macroloom.EACH, insert(25)), 4);
        text("each inserts", 0, "zabzzcdz");
        cursors("each inserts", 0, 1, 8, 5, 4, 0);
        runs("each erases", one(Macroloom.EACH, bare(Macroloom.ERASE)), 4);
        text("each erases", 0, "abcd");
        cursors("one went by that, when it had been done", 0, 0, 4, 2, NONE, 0);
        runs("an error", one(Macroloom.EACH, one(Macroloom.MOVE, two(Macroloom.SUM, bare(Macroloom.HERE), num(1)))), ERROR + Macroloom.RANGE);
        cursors("an error", 0, 0, 4, 2, NONE, 0);
        runs("caught, the same one is active again", then(attempt(0, one(Macroloom.EACH, iff(bare(Macroloom.HERE), fail(1), num(0))), num(0)), bare(Macroloom.HERE)), 0);
        runs("BREAK", loop(0, one(Macroloom.EACH, iff(bare(Macroloom.HERE), leave(0, bare(Macroloom.HERE)), num(0)))), 2);
        cursors("BREAK", 0, 0, 4, 2, NONE, 0);
        runs("none are made meanwhile", one(Macroloom.EACH, attempt(0, one(Macroloom.CURSOR, num(1)), num(0))), 3);
        cursors("none are made meanwhile", 0, 0, 4, 2, 1, 0);
        runs("EACH within EACH", then(let(0, num(0)), one(Macroloom.EACH, one(Macroloom.EACH, put(0, two(Macroloom.SUM, name(0), num(1))))), name(0)), 16);
    }

    private static void runEachOrder() {
        write(0, "abcd");
        x.run(then(one(Macroloom.CURSOR, num(1)), move(3)));
        // The cursor 1 goes first; it moves to the end, and erases up to the cursor 0, which goes by that.
        int erase = bare(Macroloom.ERASE);
        int first = then(move(4), erase, num(1));
        costs("one that is there no more", one(Macroloom.EACH, first), 1, 7);
        cursors("the lowest is active", 0, NONE, 3, NONE, NONE, 1);
        text("it", 0, "abc");
        x = new Macroloom();
        write(0, "abcd");
        x.run(then(one(Macroloom.CURSOR, num(1)), move(3)));
        // Another one gets the number of the one that went.
        int once = then(move(4), bare(Macroloom.ERASE), one(Macroloom.CURSOR, num(0)));
        runs("by its number", one(Macroloom.EACH, attempt(0, once, num(0))), 2);
        due("the same number is active", x.activeCursor(0), 0);
        x = new Macroloom();
        write(0, "ab");
        write(1, "cde");
        int other = then(one(Macroloom.BUFFER, num(1)), one(Macroloom.CURSOR, num(3)), one(Macroloom.BUFFER, num(0)));
        x.run(other);
        int changing = one(Macroloom.EACH, then(one(Macroloom.BUFFER, num(1)), insert(9)));
        x.run(one(Macroloom.CURSOR, num(2)));
        runs("the buffer stays as it is told", changing, 2);
        due("the buffer stays as it is told", x.buffer(), 1);
        text("letters", 1, "jjcde");
        text("letters", 0, "ab");
        cursors("of its buffer", 0, 0, 2, NONE, NONE, 0);
        cursors("of the other one", 1, 2, 5, NONE, NONE, 0);
        runEachEnds();
    }

    private static void runEachEnds() {
        x = new Macroloom();
        write(0, "abcd");
        x.run(then(one(Macroloom.CURSOR, num(1)), move(3)));
        int erase = bare(Macroloom.ERASE);
        x.run(one(Macroloom.EACH, then(move(4), erase, num(1))));
        x.run(one(Macroloom.CURSOR, num(0)));
        cursors("the active one need not be the lowest", 0, 0, 3, NONE, NONE, 1);
        int five = num(5);
        x.setBudget(3);
        runs("BUDGET meanwhile", one(Macroloom.EACH, then(five, five)), ERROR + Macroloom.BUDGET);
        due("undone", x.activeCursor(0), 1);
        x.setBudget(300);
        x.start(one(Macroloom.EACH, five));
        x.step(1);
        due("meanwhile", x.activeCursor(0), 0);
        x.giveUp();
        due("given up", x.activeCursor(0), 1);
        runs("none is left out", one(Macroloom.EACH, five), 2);
        due("the same again", x.activeCursor(0), 1);
        write(0, "de");
        x.run(one(Macroloom.CURSOR, num(5)));
        x.start(one(Macroloom.EACH, iff(bare(Macroloom.HERE), five, then(move(4), erase))));
        x.step(600);
        due("two were done", x.outcome(), 2);
        cursors("the lowest, not the last", 0, 3, NONE, 4, NONE, 0);
        x = new Macroloom();
        write(0, "abcd");
        x.run(then(one(Macroloom.CURSOR, num(1)), move(3)));
        x.run(one(Macroloom.EACH, then(move(4), bare(Macroloom.ERASE), num(1))));
        x.run(one(Macroloom.CURSOR, num(0)));
        // The cursor 0 goes first; it erases the letter ahead of the cursor 1, which goes by that.
        costs("the active one goes", one(Macroloom.EACH, then(move(3), bare(Macroloom.ERASE), num(1))), 1, 7);
        cursors("the lowest is active", 0, 2, NONE, NONE, NONE, 0);
        for (int buffer = 0; buffer < 2; buffer++) {
            x = new Macroloom();
            write(buffer, "abcd");
            int to = one(Macroloom.BUFFER, num(buffer));
            x.run(then(to, one(Macroloom.CURSOR, num(0)), one(Macroloom.CURSOR, num(4)), move(2)));
            int part = iff(bare(Macroloom.HERE), num(1), then(move(3), bare(Macroloom.ERASE)));
            runs("the first one takes the active one away", one(Macroloom.EACH, part), 2);
            cursors("the lowest, not the last", buffer, NONE, 2, 3, NONE, 1);
            runs("none goes", one(Macroloom.EACH, num(1)), 2);
            cursors("the same one again", buffer, NONE, 2, 3, NONE, 1);
        }
    }

    private static void runBuffers() {
        costs("BUFFER", one(Macroloom.BUFFER, num(1)), 1, 2);
        due("buffer", x.buffer(), 1);
        runs("it stands", insert(4), 4);
        text("one", 1, "e");
        text("zero", 0, "");
        runs("BUFFER 0", one(Macroloom.BUFFER, num(0)), 0);
        due("buffer", x.buffer(), 0);
        runs("BUFFER 2", one(Macroloom.BUFFER, num(2)), ERROR + Macroloom.RANGE);
        runs("BUFFER -1", one(Macroloom.BUFFER, num(-1)), ERROR + Macroloom.RANGE);
        runs("BUFFER of a function", one(Macroloom.BUFFER, fun(0, num(1))), ERROR + Macroloom.TYPE);
    }

    private static void runReload() {
        int four = num(4), five = num(5);
        runs("UNBOUND", two(Macroloom.RELOAD, 2, four), ERROR + Macroloom.UNBOUND);
        x.define(2, 0, four, NONE);
        int reload = two(Macroloom.RELOAD, 2, five);
        costs("RELOAD", reload, 0, 1);
        runs("its value", then(num(4), reload), 0);
        due("body", x.body(2), five);
        x.define(2, 0, four, NONE);
        runs("it holds at once", then(reload, call(2, NONE, NONE)), 5);
        x.define(3, 0, then(two(Macroloom.RELOAD, 3, five), four), NONE);
        runs("a call that is active goes on", call(3, NONE, NONE), 4);
        runs("the next one is new", call(3, NONE, NONE), 5);
        runs("parameters stay", then(reload, call(2, four, NONE)), ERROR + Macroloom.TYPE);
        x.define(4, 1, four, NONE);
        runs("the arguments come ahead", call(4, two(Macroloom.RELOAD, 4, name(0)), NONE), 0);
        x.define(4, 1, four, NONE);
        runs("undone", then(two(Macroloom.RELOAD, 4, five), fail(3)), ERROR + 3);
        due("undone", x.body(4), four);
    }

    private static void runHook() {
        x.define(1, 1, stay(0, name(0)), NONE);
        costs("HOOK", one(Macroloom.HOOK, 1), 0, 1);
        runs("its value", then(num(4), one(Macroloom.HOOK, 1)), 0);
        due("hook", x.hook(), 1);
        costs("INSERT", insert(7), 7, 4);
        due("called with the letter", x.register(0), 7);
        runs("HOOK NONE", one(Macroloom.HOOK, NONE), 0);
        due("hook", x.hook(), NONE);
        costs("INSERT", insert(8), 8, 2);
        due("not called", x.register(0), 7);
        x.define(2, 1, then(one(Macroloom.INSERT, two(Macroloom.SUM, name(0), num(1))), num(3)), NONE);
        x.run(one(Macroloom.HOOK, 2));
        runs("not within itself", insert(0), 0);
        text("not within itself", 0, "hiab");
        x.define(3, 2, stay(1, two(Macroloom.SUM, name(0), name(1))), num(30));
        x.run(one(Macroloom.HOOK, 3));
        runs("its standard", insert(4), 4);
        due("its standard", x.register(1), 34);
        x.define(4, 1, then(one(Macroloom.HOOK, 1), insert(9), one(Macroloom.RETURN, fun(0, num(1)))), NONE);
        x.run(one(Macroloom.HOOK, 4));
        x.run(stay(0, num(0)));
        runs("its value does not matter", insert(5), 5);
        due("another hook is not called meanwhile", x.register(0), 0);
        due("it becomes the hook", x.hook(), 1);
        runs("and then is called", insert(6), 6);
        due("and then is called", x.register(0), 6);
        x.define(5, 0, insert(11), NONE);
        runs("a call of its slot is not the hook", then(one(Macroloom.HOOK, 1), call(5, NONE, NONE)), 11);
        due("a call of its slot is not the hook", x.register(0), 11);
    }

    private static void runHookErrors() {
        int caught = attempt(0, insert(3), name(0));
        runs("no function", then(one(Macroloom.HOOK, 0), caught), Macroloom.UNBOUND);
        text("the letter stands", 0, "d");
        x.define(0, 0, num(1), NONE);
        runs("no parameter", caught, Macroloom.TYPE);
        x.define(0, 1, fail(12), NONE);
        runs("its error", caught, 12);
        text("the letter stands", 0, "ddd");
        runs("not caught", insert(3), ERROR + 12);
        text("undone", 0, "ddd");
        x.define(1, 1, stay(0, name(0)), NONE);
        runs("behind an error the hook is called again", then(caught, one(Macroloom.HOOK, 1), insert(4)), 4);
        due("behind an error the hook is called again", x.register(0), 4);
        x.define(2, 2, num(1), then(insert(20), fail(13)));
        runs("an error of its standard", then(one(Macroloom.HOOK, 2), caught), 13);
        text("an error of its standard", 0, "ddddedu");
        runs("RANGE ahead of the hook", one(Macroloom.INSERT, num(26)), ERROR + Macroloom.RANGE);
        x.setBudget(3);
        runs("BUDGET in the hook", insert(2), ERROR + Macroloom.BUDGET);
        x.setBudget(300);
        x.define(3, 1, stay(1, name(0)), NONE);
        runs("a run behind that calls it", then(one(Macroloom.HOOK, 3), insert(2)), 2);
        due("a run behind that calls it", x.register(1), 2);
    }

    private static void runDepth() {
        // The function calls itself as often as it is told; 12 calls are fine, the 13th is too deep.
        int less = two(Macroloom.MINUS, name(1), num(1));
        int self = apply(name(0), less);
        int function = fun(1, iff(name(1), self, num(77)));
        runs("12 calls", then(let(0, function), apply(name(0), num(11))), 77);
        runs("13 calls", then(let(0, function), apply(name(0), num(12))), ERROR + Macroloom.DEPTH);
        due("13 in the trace", x.traced(), 13);
        due("the node itself first", x.traceAt(0), self);
        due("calls behind it", x.traceAt(11), self);
        runs("it can be caught", then(let(0, function), attempt(2, apply(name(0), num(12)), name(2))), Macroloom.DEPTH);
        runs("behind that calls are counted from 0", then(let(0, function), attempt(2, apply(name(0), num(12)), num(1)), apply(name(0), num(11))), 77);
        x = new Macroloom();
        x.define(0, 2, call(0, NONE, NONE), NONE);
        runs("of a slot", x.body(0), ERROR + Macroloom.DEPTH);
        due("of a slot", x.traced(), 13);
        x.define(1, 2, num(5), stay(0, two(Macroloom.SUM, num(4), num(4))));
        int deep = fun(1, iff(name(1), apply(name(0), two(Macroloom.MINUS, name(1), num(1))), call(1, NONE, NONE)));
        runs("the standard is done ahead of that", then(let(0, deep), apply(name(0), num(11))), ERROR + Macroloom.DEPTH);
        due("the standard is done ahead of that", x.register(0), 8);
        x = new Macroloom();
        int spent = let(2, gen(num(1)));
        int asks = fun(1, iff(name(1), apply(name(0), two(Macroloom.MINUS, name(1), num(1))), ask(name(2))));
        runs("ASK", then(spent, let(0, asks), apply(name(0), num(11))), ERROR + Macroloom.DEPTH);
        runs("ASK of a spent one", then(spent, ask(name(2)), let(0, asks), apply(name(0), num(11))), -1);
        x = new Macroloom();
        x.define(1, 1, num(1), NONE);
        int inserts = fun(1, iff(name(1), apply(name(0), two(Macroloom.MINUS, name(1), num(1))), insert(5)));
        runs("INSERT without a hook", then(let(0, inserts), apply(name(0), num(11))), 5);
        runs("INSERT with a hook", then(one(Macroloom.HOOK, 1), let(0, inserts), attempt(3, apply(name(0), num(11)), name(3))), Macroloom.DEPTH);
        text("the letter stands", 0, "ff");
        int asksAgain = fun(1, iff(name(1), apply(name(0), two(Macroloom.MINUS, name(1), num(1))), ask(name(2))));
        int rests = then(let(2, gen(loop(0, yielded(num(4))))), ask(name(2)), ask(name(2)), let(0, asksAgain));
        runs("a generator at rest is not active", then(rests, attempt(3, apply(name(0), num(10)), name(3))), 4);
        runs("a generator at rest", then(rests, attempt(3, apply(name(0), num(11)), name(3))), Macroloom.DEPTH);
    }

    private static void runUndone() {
        write(0, "abc");
        x.define(0, 1, name(0), NONE);
        x.setOption(2, 6);
        int all = then(move(2), one(Macroloom.CURSOR, num(1)), insert(7), one(Macroloom.BUFFER, num(1)), insert(8),
            two(Macroloom.RELOAD, 0, num(1)), one(Macroloom.HOOK, 0), stay(3, num(5)));
        runs("an error", then(all, option(2, num(9), fail(4))), ERROR + 4);
        text("undone", 0, "abc");
        text("undone", 1, "");
        cursors("undone", 0, 0, NONE, NONE, NONE, 0);
        due("undone", x.body(0), 0);
        due("undone", x.hook(), NONE);
        due("undone", x.buffer(), 0);
        due("undone", x.option(2), 6);
        due("but for the registers", x.register(3), 5);
        x.setBudget(16);
        runs("BUDGET", all, ERROR + Macroloom.BUDGET);
        text("undone", 0, "abc");
        due("undone", x.buffer(), 0);
        x.setBudget(300);
        runs("a value", all, 5);
        text("it stands", 0, "abhc");
        text("it stands", 1, "i");
        cursors("it stands", 0, 3, 1, NONE, NONE, 0);
        due("it stands", x.hook(), 0);
        due("it stands", x.buffer(), 1);
        runs("a run begins in the buffer that is current", bare(Macroloom.LENGTH), 1);
    }

    private static void runWrong() {
        noIndex("none yet", () -> x.run(0));
        int one = num(1);
        noIndex("-1", () -> x.run(-1));
        noIndex("beyond", () -> x.run(one + 1));
        noIndex("least", () -> x.run(Integer.MIN_VALUE));
        x.start(one);
        noState("stepped", () -> x.run(one));
        noIndex("stepped, the index first", () -> x.run(one + 1));
        due("it goes on", x.step(1), 1);
        runs("behind it", one, 1);
    }

    // ---- Promise 9: tried

    private static void p9() {
        write(0, "ab");
        x.define(0, 1, name(0), NONE);
        int all = then(move(2), one(Macroloom.CURSOR, num(1)), insert(7), one(Macroloom.BUFFER, num(1)), insert(8),
            two(Macroloom.RELOAD, 0, num(1)), one(Macroloom.HOOK, 0), stay(3, num(5)));
        due("a value", x.tried(all), 5);
        unchanged();
        due("an error", x.tried(then(all, fail(9))), ERROR + 9);
        unchanged();
        due("a function", x.tried(fun(0, all)), FUN);
        due("a generator", x.tried(gen(all)), GEN);
        x.setBudget(3);
        due("BUDGET", x.tried(all), ERROR + Macroloom.BUDGET);
        x.setBudget(300);
        unchanged();
        int broken = last(fail(1), fail(2));
        x.run(broken);
        x.tried(num(4));
        due("outcome stays", x.outcome(), ERROR + 2);
        due("steps stay", x.steps(), 5);
        due("cause stays", x.cause(), 1);
        due("trace stays", x.traced(), 1);
        for (int node = 0; node <= all; node++) {
            x.breakAt(node, true);
        }
        due("breaks do not matter", x.tried(all), 5);
        due("none is stepped", x.next(), NONE);
        due("the break stays", x.breakAt(all, false), true);
        noIndex("-1", () -> x.tried(-1));
        noIndex("beyond", () -> x.tried(119));
        x.start(all);
        noState("stepped", () -> x.tried(all));
        noIndex("stepped, the index first", () -> x.tried(119));
        due("next stays", x.next(), all);
        x.giveUp();
        due("run tells the same", x.run(all), 5);
        text("and does it", 0, "abh");
    }

    private static void unchanged() {
        text("unchanged", 0, "ab");
        text("unchanged", 1, "");
        cursors("unchanged", 0, 0, NONE, NONE, NONE, 0);
        due("unchanged buffer", x.buffer(), 0);
        due("unchanged body", x.body(0), 0);
        due("unchanged hook", x.hook(), NONE);
        due("unchanged register", x.register(3), 0);
        due("unchanged outcome", x.outcome(), 0);
        due("unchanged steps", x.steps(), 0);
        due("no run is stepped", x.next(), NONE);
    }

    // ---- Promise 10: triedSteps

    private static void p10() {
        int sum = two(Macroloom.SUM, num(1), num(2));
        due("SUM", x.triedSteps(sum), 3);
        due("an error", x.triedSteps(two(Macroloom.OVER, sum, num(0))), 5);
        int writes = then(insert(1), stay(1, num(4)));
        due("writes", x.triedSteps(writes), 5);
        due("nothing is written", x.length(0), 0);
        due("no register", x.register(1), 0);
        due("steps stay", x.steps(), 0);
        due("outcome stays", x.outcome(), 0);
        x.setBudget(4);
        due("BUDGET", x.triedSteps(writes), 4);
        x.setBudget(300);
        due("for ever", x.triedSteps(loop(0, sum)), 300);
        int asked = then(let(0, gen(last(yielded(num(4)), stay(0, num(6))))), ask(name(0)));
        due("closing too", x.triedSteps(asked), 10);
        for (int node = 0; node <= asked; node++) {
            x.breakAt(node, true);
        }
        due("breaks do not matter", x.triedSteps(asked), 10);
        due("none is stepped", x.next(), NONE);
        noIndex("-1", () -> x.triedSteps(-1));
        noIndex("beyond", () -> x.triedSteps(119));
        x.start(sum);
        noState("stepped", () -> x.triedSteps(sum));
        noIndex("stepped, the index first", () -> x.triedSteps(119));
    }

    // ---- Promise 11: start

    private static void p11() {
        int sum = two(Macroloom.SUM, num(1), num(2));
        int unbound = name(4);
        noIndex("-1", () -> x.start(-1));
        noIndex("beyond", () -> x.start(9));
        x.run(num(8));
        x.start(sum);
        due("it rests ahead of its first node", x.next(), sum);
        due("nothing is active", x.active(), 0);
        due("the outcome is the one ahead", x.outcome(), 8);
        due("the steps are those ahead", x.steps(), 1);
        noState("stepped", () -> x.start(sum));
        noIndex("stepped, the index first", () -> x.start(9));
        due("it is all there", x.step(600), 3);
        due("outcome", x.outcome(), 3);
        x.start(unbound);
        due("a next one", x.step(1), 1);
        due("outcome", x.outcome(), ERROR + Macroloom.UNBOUND);
        x.setBudget(2);
        x.start(sum);
        x.setBudget(300);
        due("the budget is the one when it starts", x.step(9), 2);
        due("outcome", x.outcome(), ERROR + Macroloom.BUDGET);
        x.start(let(0, num(4)));
        x.step(600);
        x.start(name(0));
        due("a scope of its own", x.look(0), 49999);
    }

    // ---- Promise 12: step

    private static void p12() {
        int one = num(1), two = num(2);
        int sum = two(Macroloom.SUM, one, two);
        noState("none is stepped", () -> x.step(1));
        noArgument("the argument first", () -> x.step(0));
        x.start(sum);
        noArgument("0", () -> x.step(0));
        noArgument("-1", () -> x.step(-1));
        noArgument("601", () -> x.step(601));
        due("one", x.step(1), 1);
        due("it rests", x.next(), one);
        due("one", x.step(1), 1);
        due("it rests", x.next(), two);
        due("the last", x.step(1), 1);
        due("ended", x.next(), NONE);
        due("outcome", x.outcome(), 3);
        due("steps", x.steps(), 3);
        noState("ended", () -> x.step(1));
        x.start(sum);
        due("two", x.step(2), 2);
        due("fewer", x.step(2), 1);
        stepBreaks(one, two, sum);
        stepBudget(sum);
        int inserts = then(insert(3), insert(4));
        x.start(inserts);
        x.step(3);
        text("as it is meanwhile", 0, "d");
        due("meanwhile", x.cursor(0, 0), 1);
        x.step(600);
        text("behind it", 0, "de");
        x.start(then(insert(3), stay(1, one), fail(5)));
        x.step(600);
        text("undone", 0, "de");
        due("but for the registers", x.register(1), 1);
        due("outcome", x.outcome(), ERROR + 5);
    }

    private static void stepBreaks(int one, int two, int sum) {
        x.breakAt(two, true);
        x.start(sum);
        due("it stops at a break", x.step(600), 2);
        due("it stops at a break", x.next(), two);
        due("not at the one at which it rests", x.step(600), 1);
        x.breakAt(two, false);
        x.breakAt(sum, true);
        x.breakAt(one, true);
        x.start(sum);
        due("not ahead of the first", x.step(600), 1);
        due("the next one", x.next(), one);
        due("on to the end", x.step(600), 2);
        due("run does not stop", x.run(sum), 3);
        int again = loop(0, one);
        x.setBudget(5);
        x.start(again);
        due("each time", x.step(600), 1);
        due("each time", x.step(600), 1);
        due("each time", x.step(600), 1);
        x.breakAt(one, false);
        due("taken meanwhile", x.step(600), 2);
        due("ended by the budget", x.outcome(), ERROR + Macroloom.BUDGET);
        x.breakAt(sum, false);
        x.setBudget(300);
        x.run(one);
    }

    private static void stepBudget(int sum) {
        x.setBudget(2);
        x.start(sum);
        due("as many as the budget", x.step(2), 2);
        due("it rests ahead of the one beyond", x.next(), 1);
        due("outcome of the one ahead", x.outcome(), 1);
        due("none begins", x.step(1), 0);
        due("ended", x.next(), NONE);
        due("outcome", x.outcome(), ERROR + Macroloom.BUDGET);
        due("steps", x.steps(), 2);
        x.setBudget(300);
    }

    // ---- Promise 13: giveUp

    private static void p13() {
        noState("none is stepped", () -> x.giveUp());
        write(0, "ab");
        x.define(0, 1, num(0), NONE);
        int all = then(stay(3, num(5)), move(2), one(Macroloom.CURSOR, num(1)), insert(7), one(Macroloom.BUFFER, num(1)), insert(8),
            two(Macroloom.RELOAD, 0, num(1)), one(Macroloom.HOOK, 0), option(1, num(4), num(6)));
        x.run(last(fail(1), fail(2)));
        x.start(all);
        due("at once", x.giveUp(), 0);
        x.start(all);
        x.step(22);
        due("meanwhile", x.hook(), 0);
        due("meanwhile", x.buffer(), 1);
        x.step(2);
        due("meanwhile", x.option(1), 4);
        due("24 steps", x.giveUp(), 24);
        due("none is stepped", x.next(), NONE);
        noState("none is stepped", () -> x.giveUp());
        noState("none is stepped", () -> x.step(1));
        noState("none is stepped", () -> x.look(0));
        text("undone", 0, "ab");
        text("undone", 1, "");
        cursors("undone", 0, 0, NONE, NONE, NONE, 0);
        due("undone", x.body(0), 0);
        due("undone", x.hook(), NONE);
        due("undone", x.buffer(), 0);
        due("undone", x.option(1), 0);
        due("but for the registers", x.register(3), 5);
        due("outcome of the run ahead", x.outcome(), ERROR + 2);
        due("steps of the run ahead", x.steps(), 5);
        due("cause of the run ahead", x.cause(), 1);
        due("trace of the run ahead", x.traced(), 1);
        runs("another run", all, 6);
    }

    // ---- Promise 14: breakAt

    private static void p14() {
        int one = num(1);
        int sum = two(Macroloom.SUM, one, one);
        due("none at first", x.breakAt(one, true), false);
        due("one then", x.breakAt(one, true), true);
        due("taken", x.breakAt(one, false), true);
        due("none then", x.breakAt(one, false), false);
        due("each its own", x.breakAt(sum, true), false);
        due("each its own", x.breakAt(one, true), false);
        noIndex("-1", () -> x.breakAt(-1, true));
        noIndex("beyond", () -> x.breakAt(2, true));
        x.start(sum);
        due("at the first", x.step(9), 1);
        due("at the second", x.step(9), 1);
        due("while a run is stepped", x.breakAt(one, false), true);
        x.giveUp();
        due("it is not undone", x.breakAt(one, false), false);
        due("it stands", x.breakAt(sum, false), true);
        x.breakAt(one, true);
        due("a run that is not stepped goes on", x.run(sum), 2);
        due("none is stepped", x.next(), NONE);
    }

    // ---- Promise 15: next

    private static void p15() {
        due("none", x.next(), NONE);
        int four = num(4), zero = num(0), five = num(5), two = num(2);
        int iff = iff(zero, four, five);
        int fails = one(Macroloom.THROW, two);
        int all = last(fails, iff);
        x.start(all);
        due("first", x.next(), all);
        x.step(1);
        due("THROW", x.next(), fails);
        x.step(1);
        due("its part", x.next(), two);
        x.step(1);
        due("FINALLY", x.next(), iff);
        x.step(1);
        due("IF", x.next(), zero);
        x.step(1);
        due("c", x.next(), five);
        x.step(1);
        due("none", x.next(), NONE);
        due("outcome", x.outcome(), ERROR + 2);
        int yield = yielded(four), body = last(yield, five), ask = ask(gen(body));
        x.start(ask);
        x.step(4);
        due("YIELD's part", x.next(), four);
        x.step(1);
        due("closing", x.next(), five);
        due("closing is not active", x.active(), 0);
        x.step(1);
        due("none", x.next(), NONE);
    }

    // ---- Promise 16: look

    private static void p16() {
        noState("none is stepped", () -> x.look(0));
        noIndex("the index first", () -> x.look(8));
        int inner = one(Macroloom.SCOPE, then(let(0, num(5)), num(6)));
        int all = then(let(0, num(4)), let(1, fun(2, name(2))), let(3, gen(num(1))), inner, apply(name(1), num(9)), num(8));
        x.start(all);
        noIndex("-1", () -> x.look(-1));
        noIndex("8", () -> x.look(8));
        due("nothing", x.look(0), 49999);
        due("nothing", x.look(7), 49999);
        x.step(3);
        due("a number", x.look(0), 4);
        x.step(3);
        due("a function", x.look(1), FUN);
        x.step(3);
        due("a generator", x.look(3), GEN);
        x.step(5);
        due("the inner scope", x.next(), inner - 2);
        due("the inner scope", x.look(0), 5);
        due("its outer one", x.look(1), FUN);
        x.step(1);
        due("behind it", x.look(0), 4);
        due("no parameter", x.look(2), 49999);
        x.step(4);
        due("a parameter", x.look(2), 9);
        due("what it keeps", x.look(0), 4);
        x.step(1);
        due("no parameter", x.look(2), 49999);
        x.step(1);
        noState("ended", () -> x.look(0));
        x.define(0, 2, name(1), name(0));
        x.start(then(let(5, num(3)), call(0, num(7), NONE)));
        x.step(5);
        due("a standard sees the first one", x.look(0), 7);
        due("a standard does not see the second one", x.look(1), 49999);
        due("no outer scope", x.look(5), 49999);
        x.step(1);
        due("a body sees both", x.look(1), 7);
        x.step(1);
        due("ended", x.outcome(), 7);
    }

    // ---- Promise 17: active

    private static void p17() {
        due("none", x.active(), 0);
        x.define(0, 2, then(num(1), num(2)), num(3));
        x.define(1, 1, name(0), NONE);
        x.start(call(0, NONE, NONE));
        due("first", x.active(), 0);
        x.step(1);
        due("a standard", x.active(), 0);
        x.step(1);
        due("ahead of its body", x.active(), 1);
        x.step(3);
        due("ended", x.active(), 0);
        int nested = apply(fun(0, call(0, num(1), num(2))), num(1));
        x.start(then(nested, num(1)));
        x.step(4);
        due("APPLY", x.active(), 1);
        x.step(3);
        due("CALL in APPLY", x.active(), 2);
        x.step(3);
        due("both ended", x.active(), 0);
        x.giveUp();
        due("given up", x.active(), 0);
        x.start(then(let(0, gen(then(yielded(num(1)), num(2)))), ask(name(0)), ask(name(0)), num(3)));
        x.step(6);
        due("ASK", x.active(), 1);
        x.step(3);
        due("at rest", x.active(), 0);
        x.step(3);
        due("gone on", x.active(), 1);
        x.step(1);
        due("spent", x.active(), 0);
        x.step(1);
        x.run(one(Macroloom.HOOK, 1));
        x.start(then(insert(4), num(1)));
        x.step(3);
        due("the hook", x.active(), 1);
        x.step(1);
        due("behind the hook", x.active(), 0);
        x.giveUp();
        due("none behind a run", x.run(nested), 2);
        due("none behind a run", x.active(), 0);
    }

    // ---- Promise 18: outcome

    private static void p18() {
        due("at first", x.outcome(), 0);
        x.run(num(-9999));
        due("a number", x.outcome(), -9999);
        x.run(then(fun(0, 0), fun(0, 0)));
        due("a function", x.outcome(), FUN + 1);
        x.run(then(gen(0), gen(0)));
        due("a generator", x.outcome(), GEN + 1);
        x.run(fail(-9999));
        due("an error", x.outcome(), ERROR - 9999);
        x.tried(num(3));
        x.triedSteps(num(3));
        due("not of what is tried", x.outcome(), ERROR - 9999);
        x.start(then(num(1), num(7)));
        x.step(2);
        due("not of a run that is stepped", x.outcome(), ERROR - 9999);
        x.giveUp();
        due("not of one given up", x.outcome(), ERROR - 9999);
        x.start(num(6));
        x.step(1);
        due("of one stepped to its end", x.outcome(), 6);
        noIndex("a call that throws", () -> x.run(-1));
        due("changes nothing", x.outcome(), 6);
    }

    // ---- Promise 19: steps

    private static void p19() {
        due("at first", x.steps(), 0);
        x.run(num(3));
        due("one", x.steps(), 1);
        x.run(then(num(1), num(2), num(3)));
        due("five", x.steps(), 5);
        x.run(then(fail(1), num(2)));
        due("an error", x.steps(), 3);
        x.setBudget(7);
        x.run(loop(0, num(1)));
        due("BUDGET", x.steps(), 7);
        x.tried(num(3));
        due("not of what is tried", x.steps(), 7);
        int sum = two(Macroloom.SUM, num(1), num(2));
        x.start(sum);
        x.step(2);
        due("not of a run that is stepped", x.steps(), 7);
        x.step(1);
        due("of one stepped to its end", x.steps(), 3);
        x.start(sum);
        x.step(1);
        x.giveUp();
        due("not of one given up", x.steps(), 3);
    }

    // ---- Promise 20: cause

    private static void p20() {
        due("at first", x.cause(), ERROR);
        x.run(num(1));
        due("a value", x.cause(), ERROR);
        x.run(fail(4));
        due("an error without one", x.cause(), ERROR);
        int both = last(fail(4), fail(5));
        x.run(both);
        due("of a", x.cause(), 4);
        x.run(last(fail(-9999), fail(5)));
        due("of a", x.cause(), -9999);
        x.run(last(two(Macroloom.OVER, num(1), num(0)), name(3)));
        due("ZERO", x.cause(), Macroloom.ZERO);
        x.run(last(num(4), fail(5)));
        due("a ended with a value", x.cause(), ERROR);
        x.run(loop(0, last(leave(0, num(3)), fail(5))));
        due("a ended by BREAK", x.cause(), ERROR);
        x.run(last(both, num(1)));
        due("it goes on with its error", x.cause(), 4);
        x.run(last(both, fail(6)));
        due("the latest error of a", x.cause(), 5);
        x.run(last(fail(7), both));
        due("the outer one", x.cause(), 7);
        x.run(last(num(7), both));
        due("no outer one", x.cause(), 4);
        x.run(attempt(0, both, fail(8)));
        due("THROW has none", x.cause(), ERROR);
        x.run(attempt(0, both, one(Macroloom.THROW, name(0))));
        due("THROW of the same has none", x.cause(), ERROR);
        x.run(attempt(0, both, name(0)));
        due("caught", x.cause(), ERROR);
        x.run(last(fail(3), attempt(0, both, num(1))));
        due("caught within b", x.cause(), ERROR);
        x.run(apply(fun(0, both), num(1)));
        due("through a call", x.cause(), 4);
        x.run(ask(gen(both)));
        due("through ASK", x.cause(), 4);
        x.run(both);
        x.tried(fail(1));
        due("not of what is tried", x.cause(), 4);
        x.setBudget(4);
        x.run(both);
        due("BUDGET has none", x.cause(), ERROR);
        due("BUDGET", x.outcome(), ERROR + Macroloom.BUDGET);
        x.setBudget(300);
        x.run(both);
        x.run(num(1));
        due("gone behind a value", x.cause(), ERROR);
    }

    // ---- Promises 21 and 22: the trace

    private static void p21() {
        due("at first", x.traced(), 0);
        int zero = two(Macroloom.OVER, num(1), num(0));
        x.run(zero);
        due("one", x.traced(), 1);
        x.run(num(1));
        due("a value", x.traced(), 0);
        x.run(apply(fun(0, zero), num(1)));
        due("a call", x.traced(), 2);
        x.tried(zero);
        due("not of what is tried", x.traced(), 2);
        x.start(num(1));
        due("not of a run that is stepped", x.traced(), 2);
        x.giveUp();
        due("not of one given up", x.traced(), 2);
        x.run(attempt(0, apply(fun(0, zero), num(1)), num(5)));
        due("caught", x.traced(), 0);
    }

    private static void p22() {
        noIndex("at first", () -> x.traceAt(0));
        int zero = two(Macroloom.OVER, num(1), num(0));
        int apply = apply(fun(0, then(num(3), zero)), num(1));
        x.define(0, 0, apply, NONE);
        x.define(1, 1, call(0, NONE, NONE), NONE);
        int call = x.body(1);
        int insert = insert(3);
        x.run(one(Macroloom.HOOK, 1));
        int ask = ask(gen(then(num(2), insert)));
        x.run(then(num(1), ask));
        trace("all four", zero, apply, call, insert, ask);
        noIndex("-1", () -> x.traceAt(-1));
        noIndex("5", () -> x.traceAt(5));
        x.run(one(Macroloom.HOOK, 5));
        x.run(insert);
        trace("a hook without a function", insert);
        int name = name(7), unbound = put(3, num(1)), nexted = one(Macroloom.NEXT, 0);
        x.run(then(num(1), name));
        trace("NAME", name);
        x.run(unbound);
        trace("PUT", unbound);
        x.run(nexted);
        trace("NEXT", nexted);
        int fails = fail(6), tooMany = call(0, num(1), NONE), noCall = call(4, NONE, NONE);
        x.run(fails);
        trace("THROW", fails);
        x.run(tooMany);
        trace("CALL with too many", tooMany);
        x.run(noCall);
        trace("CALL of none", noCall);
        traceLater(zero, fails);
    }

    private static void traceLater(int zero, int fails) {
        int both = last(zero, fails);
        x.run(both);
        trace("the later error", fails);
        x.run(last(zero, num(1)));
        trace("the earlier error, again on its way", zero);
        x.run(attempt(0, zero, fails));
        trace("behind a TRY", fails);
        int again = ask(name(0));
        int first = ask(name(0));
        x.run(then(let(0, gen(then(yielded(num(1)), zero))), first, again));
        trace("the ASK by which it went on", zero, again);
        x.run(then(let(0, gen(last(yielded(num(1)), zero))), first));
        trace("closing is no call", zero);
        int resting = ask(gen(last(yielded(num(1)), zero)));
        x.run(ask(gen(then(resting, num(3)))));
        trace("closing is no call", zero);
        x.run(last(zero, attempt(0, fails, num(1))));
        trace("an error caught meanwhile", zero);
        x.setBudget(1);
        int one = num(1);
        x.run(one(Macroloom.SCOPE, one));
        trace("BUDGET", one);
        x.setBudget(4);
        int inner = then(num(1), num(2));
        int deep = apply(fun(0, inner), num(3));
        x.run(deep);
        trace("BUDGET in a call", inner - 2, deep);
        x.setBudget(3);
        x.run(deep);
        trace("BUDGET ahead of a body", inner, deep);
        noIndex("2", () -> x.traceAt(2));
    }

    // ---- Promises 23 to 31: texts, as they are

    private static void p23() {
        due("at first", x.buffer(), 0);
        int other = one(Macroloom.BUFFER, num(1));
        x.start(then(other, num(4)));
        due("ahead", x.buffer(), 0);
        x.step(3);
        due("while it is stepped", x.buffer(), 1);
        x.giveUp();
        due("given up", x.buffer(), 0);
        x.run(other);
        due("behind a run", x.buffer(), 1);
        x.tried(one(Macroloom.BUFFER, num(0)));
        due("tried", x.buffer(), 1);
        x.run(then(one(Macroloom.BUFFER, num(0)), fail(1)));
        due("undone", x.buffer(), 1);
    }

    private static void p24() {
        due("at first", x.length(0), 0);
        x.write(0, 1);
        due("zero", x.length(0), 1);
        due("one", x.length(1), 0);
        x.start(then(insert(2), one(Macroloom.BUFFER, num(1)), insert(3), insert(4)));
        x.step(3);
        due("while it is stepped", x.length(0), 2);
        x.step(600);
        due("one", x.length(1), 2);
        noIndex("-1", () -> x.length(-1));
        noIndex("2", () -> x.length(2));
    }

    private static void p25() {
        noIndex("nothing yet", () -> x.letter(0, 0));
        write(0, "az");
        write(1, "m");
        due("first", x.letter(0, 0), 0);
        due("second", x.letter(0, 1), 25);
        due("of the other one", x.letter(1, 0), 12);
        noIndex("beyond", () -> x.letter(0, 2));
        noIndex("beyond", () -> x.letter(1, 1));
        noIndex("-1", () -> x.letter(0, -1));
        noIndex("buffer -1", () -> x.letter(-1, 0));
        noIndex("buffer 2", () -> x.letter(2, 0));
        x.start(then(insert(2), num(1)));
        x.step(3);
        due("while it is stepped", x.letter(0, 0), 2);
        x.giveUp();
        due("given up", x.letter(0, 0), 0);
    }

    private static void p26() {
        due("at first", x.cursor(0, 0), 0);
        due("at first", x.cursor(1, 3), NONE);
        write(1, "abc");
        x.run(then(one(Macroloom.BUFFER, num(1)), one(Macroloom.CURSOR, num(2)), move(3)));
        due("zero", x.cursor(1, 0), 3);
        due("one", x.cursor(1, 1), 2);
        due("two", x.cursor(1, 2), NONE);
        due("of the other text", x.cursor(0, 1), NONE);
        noIndex("buffer -1", () -> x.cursor(-1, 0));
        noIndex("buffer 2", () -> x.cursor(2, 0));
        noIndex("cursor -1", () -> x.cursor(0, -1));
        noIndex("cursor 4", () -> x.cursor(0, 4));
        x.start(then(move(0), num(1)));
        x.step(3);
        due("while it is stepped", x.cursor(1, 0), 0);
    }

    private static void p27() {
        due("at first", x.activeCursor(0), 0);
        due("at first", x.activeCursor(1), 0);
        write(0, "abc");
        x.run(then(one(Macroloom.CURSOR, num(2)), one(Macroloom.CURSOR, num(1))));
        due("CURSOR does not change it", x.activeCursor(0), 0);
        int one = num(1);
        x.start(one(Macroloom.EACH, one));
        due("ahead", x.activeCursor(0), 0);
        x.step(1);
        due("the first", x.activeCursor(0), 0);
        x.step(1);
        due("the second", x.activeCursor(0), 2);
        x.step(1);
        due("the third", x.activeCursor(0), 1);
        due("of the other text", x.activeCursor(1), 0);
        x.step(1);
        due("behind it", x.activeCursor(0), 0);
        due("how many", x.outcome(), 3);
        noIndex("-1", () -> x.activeCursor(-1));
        noIndex("2", () -> x.activeCursor(2));
    }

    private static void p28() {
        due("at first", x.option(3), 0);
        x.setOption(3, -4);
        due("set", x.option(3), -4);
        due("another one", x.option(2), 0);
        x.start(option(3, num(7), option(2, fun(0, 0), option(1, gen(0), num(1)))));
        x.step(3);
        due("a number", x.option(3), 7);
        x.step(2);
        due("a function", x.option(2), FUN);
        x.step(1);
        due("a generator", x.option(1), GEN);
        x.step(1);
        due("behind it", x.option(3), -4);
        due("behind it", x.option(2), 0);
        noIndex("-1", () -> x.option(-1));
        noIndex("4", () -> x.option(4));
    }

    private static void p29() {
        due("at first", x.register(0), 0);
        due("at first", x.register(3), 0);
        x.run(stay(3, num(-9999)));
        due("STAY", x.register(3), -9999);
        due("another one", x.register(2), 0);
        x.start(then(stay(1, num(5)), fail(3)));
        x.step(3);
        due("while it is stepped", x.register(1), 5);
        x.step(600);
        due("behind an error", x.register(1), 5);
        x.tried(stay(1, num(6)));
        due("tried", x.register(1), 5);
        noIndex("-1", () -> x.register(-1));
        noIndex("4", () -> x.register(4));
    }

    private static void p30() {
        int one = num(1), two = num(2);
        due("at first", x.body(0), NONE);
        x.define(5, 1, two, NONE);
        due("defined", x.body(5), two);
        due("another one", x.body(4), NONE);
        x.start(then(two(Macroloom.RELOAD, 5, one), num(1)));
        x.step(2);
        due("while it is stepped", x.body(5), one);
        x.giveUp();
        due("given up", x.body(5), two);
        x.run(two(Macroloom.RELOAD, 5, one));
        due("reloaded", x.body(5), one);
        noIndex("-1", () -> x.body(-1));
        noIndex("6", () -> x.body(6));
    }

    private static void p31() {
        due("at first", x.hook(), NONE);
        x.run(one(Macroloom.HOOK, 5));
        due("HOOK", x.hook(), 5);
        x.start(then(one(Macroloom.HOOK, 0), num(1)));
        due("ahead", x.hook(), 5);
        x.step(2);
        due("while it is stepped", x.hook(), 0);
        x.giveUp();
        due("given up", x.hook(), 5);
        x.run(then(one(Macroloom.HOOK, 1), fail(1)));
        due("undone", x.hook(), 5);
        x.run(one(Macroloom.HOOK, NONE));
        due("NONE", x.hook(), NONE);
    }
}
