/** "How a node is done", but for functions and generators: values, names, numbers, loops, errors, options. Promise 8 and, as each is tried, 9 and 10. */
final class NodeEdges extends Edges {
    static void all() {
        edge(8, "A value is a number, -9999 to 9999, a function, or a generator.", NodeEdges::values);
        edge(8, "Functions, and likewise generators, are numbered from 0 in the order in which a run makes them.", NodeEdges::madeInOrder);
        edge(8, "What is reckoned is kept within -9999 to 9999.", NodeEdges::keptWithin);
        edge(10, "Each time a node is begun, it costs a step.", NodeEdges::steps);
        edge(8, "If a part of a node ends otherwise than with a value, the node ends at once in the same way, if nothing else is told.", NodeEdges::endsAtOnce);
        edge(8, "A node is done in a scope; its parts in the same one, from left to right, if nothing else is told.", NodeEdges::leftToRight);
        edge(8, "A scope has cells for some of the names 0 to 7, and may have an outer scope.", NodeEdges::eightNames);
        edge(8, "The cell of a name is that which the innermost scope with one for this name has.", NodeEdges::innermostCell);
        edge(8, "NUMBER a: the number a.", NodeEdges::numbers);
        edge(8, "NAME a: what is in the cell of the name a; UNBOUND, if there is none.", NodeEdges::unboundName);
        edge(8, "LET a b: the innermost scope gets a new cell for the name a, instead of one that it has, with the value of b; that is its value.", NodeEdges::lets);
        edge(8, "PUT a b: the value of b goes into the cell of the name a, and is its value; UNBOUND, if there is none then.", NodeEdges::puts);
        edge(8, "OVER (the quotient, rounded toward 0; ZERO, if b is 0)", NodeEdges::quotients);
        edge(8, "BELOW (1 if a is less than b, otherwise 0)", NodeEdges::lesser);
        edge(8, "of two numbers; otherwise TYPE.", NodeEdges::twoNumbers);
        edge(8, "SAME a b: 1 if both values are the same, otherwise 0.", NodeEdges::sameValues);
        edge(8, "IF a b c: b, if the value of a is not the number 0, otherwise c; its value.", NodeEdges::notZero);
        edge(8, "THEN a b: a, then b; the value of b.", NodeEdges::oneBehindTheOther);
        edge(8, "SCOPE a: a in a new scope, whose outer one is the innermost one.", NodeEdges::scopes);
        edge(8, "LOOP a b, a label 0 to 3: b is done again and again, each time in a new scope, as told at SCOPE.", NodeEdges::loops);
        edge(8, "BREAK a b: with the value of b the innermost LOOP with the label a within the body ends, and has it as its value; ASTRAY, if there is none.", NodeEdges::breaks);
        edge(8, "NEXT a: the innermost LOOP with the label a within the body goes on with the next time; ASTRAY, if there is none.", NodeEdges::nexts);
        edge(8, "Errors are ASTRAY to UNBOUND, told below, or what THROW tells.", NodeEdges::errors);
        edge(8, "TRY a b c: b; if that ends with an error, c is done in a new scope, as told at SCOPE, with a cell for the name a with the error.", NodeEdges::tries);
        edge(8, "FINALLY a b: a, and then, however a ended, b.", NodeEdges::howeverItEnded);
        edge(8, "If b ends with a value, FINALLY ends as a did; otherwise as b did.", NodeEdges::endsAsEither);
        edge(8, "THROW a: the error that the value of a is, without a cause, whatever number it is; TYPE, if it is no number.", NodeEdges::throwsAny);
        edge(8, "OPTION a b c, an option 0 to 3: b, and then c, while the option a is the value of b; however c ends, the option is again what it was.", NodeEdges::optionsHold);
        edge(8, "GET a: what the option a is.", NodeEdges::gets);
        edge(29, "STAY a b, a register 0 to 3: the register a becomes the value of b, which has to be a number, otherwise TYPE; that is its value.", NodeEdges::stays);
    }

    private static void values() {
        runs("the least", num(-9999), -9999);
        runs("the greatest", num(9999), 9999);
        int function = fun(0, num(1)), generator = gen(num(1));
        for (int value : new int[] {function, generator}) {
            int told = value == function ? FUN : GEN;
            runs("by itself", value, told);
            runs("in a cell", then(let(0, value), name(0)), told);
            runs("put into a cell", then(let(0, num(0)), put(0, value), name(0)), told);
            runs("as an option", option(0, value, get(0)), told);
            runs("out of a loop", loop(0, leave(0, value)), told);
            runs("through IF", iff(value, value, num(1)), told + 1);
        }
        fresh();
        int pass = name(0), made = gen(num(1));
        x.define(0, 1, pass, NONE);
        x.define(1, 2, name(1), made);
        runs("as an argument", apply(fun(0, pass), made), GEN);
        runs("as an argument of a slot", call(0, made, NONE), GEN);
        runs("of a standard", call(1, NONE, NONE), GEN);
        runs("by RETURN", apply(fun(0, back(pass)), made), GEN);
        runs("by YIELD", ask(gen(yielded(made))), GEN + 1);
        runs("through FINALLY", last(made, num(1)), GEN);
    }

    private static void madeInOrder() {
        int function = fun(0, num(1)), generator = gen(num(1));
        runs("the first function", function, FUN);
        runs("the second one", then(function, function), FUN + 1);
        runs("the third one", then(function, generator, function, function), FUN + 2);
        runs("the first generator", then(function, function, generator), GEN);
        runs("the second one", then(generator, function, generator), GEN + 1);
        runs("anew in the next run", generator, GEN);
        runs("by when it is made, not asked for", then(let(0, function), let(1, function), name(0)), FUN);
        runs("one that is gone counts", then(attempt(0, then(function, fail(1)), num(1)), function), FUN + 1);
        runs("made in a call", then(let(0, fun(1, fun(2, num(1)))), apply(name(0), num(1)), apply(name(0), num(1))), FUN + 2);
        due("tried does not count", x.tried(function), FUN);
        runs("tried does not count", function, FUN);
        x.start(then(function, num(1)));
        x.step(2);
        x.giveUp();
        runs("given up does not count", function, FUN);
        fresh();
        int again = then(fun(0, num(1)), gen(num(1)));
        x.setBudget(600);
        x.run(loop(0, again));
        runs("in a run behind one with many", again, GEN);
        int first = fun(0, num(1)), second = then(let(0, num(-1)), loop(0, then(let(1, first), put(0, sum(name(0), num(1))),
            iff(below(name(0), num(40)), num(0), leave(0, name(1))))));
        runs("the 41st", second, FUN + 40);
    }

    private static void keptWithin() {
        reckons(Macroloom.SUM, 9998, 1, 9999);
        reckons(Macroloom.SUM, 9999, 1, 9999);
        reckons(Macroloom.SUM, 9999, 9999, 9999);
        reckons(Macroloom.SUM, -9998, -1, -9999);
        reckons(Macroloom.SUM, -9999, -1, -9999);
        reckons(Macroloom.SUM, -9999, -9999, -9999);
        reckons(Macroloom.SUM, -9999, 9999, 0);
        reckons(Macroloom.MINUS, 9998, -1, 9999);
        reckons(Macroloom.MINUS, 9999, -1, 9999);
        reckons(Macroloom.MINUS, -9998, 1, -9999);
        reckons(Macroloom.MINUS, -9999, 1, -9999);
        reckons(Macroloom.MINUS, 0, -9999, 9999);
        reckons(Macroloom.MINUS, 9999, 9999, 0);
        fresh();
        reckons(Macroloom.TIMES, 99, 101, 9999);
        reckons(Macroloom.TIMES, 100, 100, 9999);
        reckons(Macroloom.TIMES, -99, 101, -9999);
        reckons(Macroloom.TIMES, -100, 100, -9999);
        reckons(Macroloom.TIMES, 98, 102, 9996);
        reckons(Macroloom.TIMES, 9999, 9999, 9999);
        reckons(Macroloom.TIMES, 9999, -9999, -9999);
        reckons(Macroloom.TIMES, -9999, -9999, 9999);
        reckons(Macroloom.TIMES, 0, -9999, 0);
        reckons(Macroloom.TIMES, 9999, -1, -9999);
        reckons(Macroloom.OVER, -9999, -1, 9999);
        reckons(Macroloom.OVER, 9999, -1, -9999);
        fresh();
        int most = num(9999);
        runs("it is kept at each step", minus(sum(most, most), most), 0);
        runs("it is kept at each step", sum(minus(num(-9999), most), most), 0);
    }

    private static void reckons(int kind, int a, int b, int want) {
        runs("kind " + kind + " of " + a + " and " + b, two(kind, num(a), num(b)), want);
    }

    private static void steps() {
        int one = num(1);
        costs("one", one, 1, 1);
        costs("two", scope(one), 1, 2);
        costs("a part twice", sum(one, one), 2, 3);
        costs("b alone", iff(one, one, sum(one, one)), 1, 3);
        costs("c alone", iff(num(0), sum(one, one), one), 1, 3);
        costs("what is not called", then(fun(0, one), gen(one)), GEN, 3);
        costs("a body", apply(fun(0, one), one), 1, 4);
        costs("each time of a loop", then(let(0, num(0)), loop(0, iff(name(0), leave(0, one), put(0, one)))), 1, 3 + 1 + 4 + 4);
        costs("what an error leaves out", then(one, fail(1), one), ERROR + 1, 5);
        costs("TRY", attempt(0, fail(1), one), 1, 4);
        costs("TRY without an error", attempt(0, one, one), 1, 2);
        costs("FINALLY", last(one, one), 1, 3);
        costs("RELOAD's part is not begun", attempt(0, reload(0, one), one), 1, 3);
        for (int kind : new int[] {Macroloom.HERE, Macroloom.LETTER, Macroloom.LENGTH}) {
            due("kind " + kind, x.triedSteps(bare(kind)), 1);
        }
        costs("NEXT", attempt(0, again(0), one), 1, 3);
        costs("HOOK", hook(NONE), 0, 1);
        costs("GET", get(0), 0, 1);
        costs("EACH", each(one), 1, 2);
        x.run(then(another(0), another(0)));
        costs("EACH of three", each(one), 3, 4);
    }

    /** The kinds with what comes behind the part that ends otherwise: b and c, where they are parts too. */
    private static int with(int kind, int part, int later) {
        switch (kind) {
            case Macroloom.LET: case Macroloom.PUT: case Macroloom.BREAK: case Macroloom.STAY:
                return two(kind, 0, part);
            case Macroloom.LOOP:
                return loop(2, part);
            case Macroloom.IF:
                return iff(part, later, later);
            case Macroloom.CALL:
                return call(0, part, later);
            case Macroloom.OPTION:
                return option(0, part, later);
            case Macroloom.TRY:
                return attempt(3, part, later);
            case Macroloom.SUM: case Macroloom.MINUS: case Macroloom.TIMES: case Macroloom.OVER: case Macroloom.BELOW: case Macroloom.SAME:
            case Macroloom.THEN: case Macroloom.APPLY:
                return two(kind, part, later);
            default:
                return one(kind, part);
        }
    }

    private static final int[] WITH_PARTS = {
        Macroloom.LET, Macroloom.PUT, Macroloom.SUM, Macroloom.MINUS, Macroloom.TIMES, Macroloom.OVER, Macroloom.BELOW, Macroloom.SAME,
        Macroloom.IF, Macroloom.THEN, Macroloom.SCOPE, Macroloom.LOOP, Macroloom.BREAK, Macroloom.APPLY, Macroloom.CALL, Macroloom.RETURN,
        Macroloom.TRY, Macroloom.THROW, Macroloom.YIELD, Macroloom.ASK, Macroloom.OPTION, Macroloom.STAY, Macroloom.INSERT, Macroloom.MOVE,
        Macroloom.CURSOR, Macroloom.EACH, Macroloom.BUFFER};

    private static void endsAtOnce() {
        for (int kind : WITH_PARTS) {
            String what = "kind " + kind + ", ";
            fresh();
            x.define(0, 2, num(1), NONE);
            int later = stay(1, num(9));
            int fails = fail(8);
            if (kind != Macroloom.TRY) {
                runs(what + "an error", loop(0, then(let(0, num(1)), with(kind, fails, later))), ERROR + 8);
                trace(what + "an error", fails);
            }
            runs(what + "BREAK", loop(0, loop(1, then(with(kind, leave(1, num(5)), later), later))), BUDGET);
            due(what + "nothing behind it", x.register(1), 0);
            runs(what + "BREAK", loop(1, then(let(0, num(1)), with(kind, leave(1, num(5)), later), later)), 5);
            runs(what + "NEXT", nextBy(kind, later), 2);
            runs(what + "RETURN", apply(fun(0, then(with(kind, back(num(6)), later), later)), num(1)), 6);
            due(what + "nothing behind it", x.register(1), 0);
        }
        endsAtOnceLater();
    }

    /** A loop whose part goes on with the next time out of such a kind, until there were 2. */
    private static int nextBy(int kind, int later) {
        int up = put(5, sum(name(5), num(1)));
        return then(let(5, num(0)), loop(1, iff(below(up, num(2)), then(with(kind, again(1), later), later), leave(1, name(5)))));
    }

    private static void endsAtOnceLater() {
        for (int kind : new int[] {Macroloom.SUM, Macroloom.MINUS, Macroloom.TIMES, Macroloom.OVER, Macroloom.BELOW, Macroloom.SAME, Macroloom.THEN, Macroloom.APPLY}) {
            fresh();
            int first = stay(0, num(3));
            costs("b of " + kind + ", ahead of TYPE of a", two(kind, then(first, fun(0, first)), fail(7)), ERROR + 7, 7);
            due("a of " + kind + " was done", x.register(0), 3);
            runs("b of " + kind, loop(0, two(kind, first, leave(0, num(4)))), 4);
        }
        fresh();
        x.define(0, 2, stay(0, num(3)), NONE);
        runs("c of CALL", call(0, num(1), fail(7)), ERROR + 7);
        runs("c of CALL, ahead of UNBOUND", call(1, num(1), fail(7)), ERROR + 7);
        runs("b of CALL, ahead of UNBOUND", call(1, fail(6), fail(7)), ERROR + 6);
        due("it was not called", x.register(0), 0);
        runs("b of IF", loop(0, iff(num(1), leave(0, num(4)), num(5))), 4);
        runs("c of IF", loop(0, iff(num(0), num(5), leave(0, num(4)))), 4);
        runs("c of TRY", loop(0, attempt(0, fail(1), leave(0, name(0)))), 1);
        runs("c of OPTION", loop(0, option(0, num(1), leave(0, get(0)))), 1);
    }

    private static void leftToRight() {
        int binds = let(0, num(4)), sees = name(0);
        runs("SUM", sum(binds, sees), 8);
        runs("MINUS", minus(binds, sees), 0);
        runs("SAME", same(binds, sees), 1);
        runs("BELOW", below(binds, sees), 0);
        runs("not from right to left", sum(sees, binds), UNBOUND);
        runs("THEN", then(binds, sees), 4);
        runs("IF", iff(binds, sees, num(1)), 4);
        runs("IF, c", iff(minus(binds, num(4)), num(1), sees), 4);
        runs("APPLY", apply(fun(1, name(1)), sum(binds, sees)), 8);
        runs("APPLY, a ahead of b", apply(then(binds, fun(1, name(1))), sees), 4);
        runs("FINALLY", then(last(num(1), binds), sees), 4);
        runs("FINALLY, b", last(binds, stay(0, sees)), 4);
        due("FINALLY, b", x.register(0), 4);
        runs("TRY, b", then(attempt(1, binds, num(1)), sees), 4);
        runs("TRY, c", attempt(1, then(binds, fail(1)), sees), 4);
        runs("OPTION", option(0, binds, sees), 4);
        fresh();
        x.define(0, 2, minus(name(0), name(1)), NONE);
        runs("CALL", call(0, sum(let(0, num(9)), num(0)), minus(name(0), num(2))), 2);
        runs("out of LET", then(let(1, let(2, num(6))), name(2)), 6);
        runs("out of PUT", then(let(1, num(1)), put(1, let(2, num(6))), name(2)), 6);
        runs("out of STAY", then(stay(1, let(2, num(6))), name(2)), 6);
        runs("out of INSERT", then(one(Macroloom.INSERT, let(2, num(6))), name(2)), 6);
        runs("out of EACH", then(each(let(2, num(6))), name(2)), 6);
        runs("out of BREAK, not", then(loop(0, leave(0, let(2, num(6)))), name(2)), UNBOUND);
        runs("out of SCOPE, not", then(scope(let(2, num(6))), name(2)), UNBOUND);
        runs("out of a function, not", then(apply(fun(0, let(2, num(6))), num(1)), name(2)), UNBOUND);
        runs("out of an argument", then(apply(fun(0, num(1)), let(2, num(6))), name(2)), 6);
    }

    private static void eightNames() {
        int all = num(0);
        for (int name = 7; name >= 0; name--) {
            all = then(let(name, num(name + 1)), all);
        }
        int binds = all, told = name(0);
        for (int name = 1; name < 8; name++) {
            told = sum(two(Macroloom.TIMES, told, num(2)), name(name));
        }
        runs("each its own cell", then(binds, told), 502);
        runs("each in an outer scope", then(binds, scope(scope(told))), 502);
        x.start(then(binds, scope(num(1))));
        for (int name = 0; name < 8; name++) {
            due("none yet", x.look(name), UNBOUND);
        }
        x.step(27);
        for (int name = 0; name < 8; name++) {
            due("name " + name, x.look(name), name + 1);
        }
        x.giveUp();
        noArgument("name 8", () -> name(8));
        noArgument("name -1", () -> name(-1));
        noOtherCells();
    }

    private static void innermostCell() {
        int sees = name(0), inner = then(let(0, num(3)), sees);
        runs("the innermost", then(let(0, num(1)), scope(then(let(0, num(2)), scope(inner)))), 3);
        runs("the one between", then(let(0, num(1)), scope(then(let(0, num(2)), scope(then(let(1, num(3)), sees))))), 2);
        runs("the outermost", then(let(0, num(1)), scope(then(let(1, num(2)), scope(then(let(1, num(3)), sees))))), 1);
        runs("none", then(let(1, num(1)), scope(then(let(1, num(2)), scope(then(let(1, num(3)), sees))))), UNBOUND);
        runs("behind the inner one", then(let(0, num(1)), scope(inner), sees), 1);
        runs("before it gets one", then(let(0, num(1)), scope(sum(sees, let(0, num(5))))), 6);
        runs("one of another name does not matter", then(let(0, num(1)), scope(then(let(1, num(9)), sees))), 1);
        runs("PUT likewise", then(let(0, num(1)), scope(then(let(0, num(2)), scope(put(0, num(7))), sees))), 7);
        runs("PUT likewise", then(let(0, num(1)), scope(then(let(0, num(2)), scope(put(0, num(7))))), sees), 1);
    }

    private static void numbers() {
        for (int value : new int[] {-9999, -9998, -1, 0, 1, 9998, 9999}) {
            costs("NUMBER", num(value), value, 1);
        }
        noArgument("-10000", () -> num(-10000));
        noArgument("10000", () -> num(10000));
    }

    private static void unboundName() {
        for (int name = 0; name < 8; name++) {
            fresh();
            int sees = name(name);
            runs("none", sees, UNBOUND);
            trace("none", sees);
            runs("one of the name beside it", then(let(name == 7 ? 6 : name + 1, num(4)), sees), UNBOUND);
            runs("one", then(let(name, num(4)), sees), 4);
            runs("one with 0", then(let(name, num(0)), sees), 0);
            runs("one with -1", then(let(name, num(-1)), sees), -1);
            runs("none in the next run", sees, UNBOUND);
        }
    }

    private static void lets() {
        int sees = name(0);
        costs("its value", let(0, num(-9999)), -9999, 2);
        runs("instead of one that it has", then(let(0, num(1)), let(0, num(2)), sees), 2);
        runs("the outer one stays", then(let(0, num(1)), scope(let(0, num(2))), sees), 1);
        runs("b sees the one before", then(let(0, num(1)), let(0, sum(sees, num(5))), sees), 6);
        runs("b sees the outer one", then(let(0, num(1)), scope(let(0, sum(sees, num(5))))), 6);
        runs("b sees none yet", let(0, sees), UNBOUND);
        runs("an error of b", then(let(0, num(1)), attempt(1, let(0, fail(3)), num(0)), sees), 1);
        runs("a function that keeps the scope sees it", then(let(0, num(1)), let(1, fun(2, sees)), let(0, num(2)), apply(name(1), num(0))), 2);
        runs("a name within its own function", then(let(0, fun(1, iff(name(1), apply(sees, num(0)), num(8)))), apply(sees, num(1))), 8);
    }

    private static void puts() {
        int sees = name(0);
        costs("none", put(0, num(4)), UNBOUND, 2);
        runs("none of this name", then(let(1, num(3)), put(0, num(4))), UNBOUND);
        runs("one, and its value", then(let(0, num(3)), put(0, num(-4))), -4);
        runs("one that b makes", then(put(0, let(0, num(4))), sees), 4);
        runs("one that b makes in a scope that is gone", put(0, scope(let(0, num(4)))), UNBOUND);
        runs("then: the inner one that b makes", then(let(0, num(1)), scope(put(0, minus(let(0, num(4)), num(1)))), sees), 1);
        runs("then: the inner one that b makes", then(let(0, num(1)), scope(then(put(0, minus(let(0, num(4)), num(1))), sees))), 3);
        runs("b comes ahead of UNBOUND", put(0, stay(0, num(6))), UNBOUND);
        due("b comes ahead of UNBOUND", x.register(0), 6);
        runs("an outer one", then(let(0, num(1)), scope(scope(put(0, num(5)))), sees), 5);
        runs("it makes none", then(attempt(1, put(0, num(4)), num(1)), sees), UNBOUND);
    }

    private static void quotients() {
        int[][] table = {{1, 2, 0}, {-1, 2, 0}, {1, -2, 0}, {2, 2, 1}, {-2, 2, -1}, {3, 2, 1}, {-3, 2, -1}, {3, -2, -1}, {-3, -2, 1},
            {9999, 9999, 1}, {9998, 9999, 0}, {-9999, 9999, -1}, {0, 5, 0}, {7, 1, 7}, {7, -1, -7}, {9999, 1, 9999}};
        for (int[] row : table) {
            reckons(Macroloom.OVER, row[0], row[1], row[2]);
        }
        int zero = num(0), over = two(Macroloom.OVER, num(1), zero);
        costs("OVER 0", over, ZERO, 3);
        trace("OVER 0", over);
        runs("0 OVER 0", two(Macroloom.OVER, zero, zero), ZERO);
        runs("OVER 1", two(Macroloom.OVER, zero, num(1)), 0);
        runs("OVER -1", two(Macroloom.OVER, zero, num(-1)), 0);
        runs("what is 0 by reckoning", two(Macroloom.OVER, num(1), minus(num(4), num(4))), ZERO);
        runs("TIMES 0", two(Macroloom.TIMES, num(9999), zero), 0);
    }

    private static void lesser() {
        int[][] table = {{1, 2, 1}, {2, 2, 0}, {3, 2, 0}, {-1, 0, 1}, {0, 0, 0}, {0, -1, 0}, {-9999, -9998, 1}, {-9999, -9999, 0},
            {9998, 9999, 1}, {9999, 9999, 0}, {9999, -9999, 0}, {-9999, 9999, 1}};
        for (int[] row : table) {
            reckons(Macroloom.BELOW, row[0], row[1], row[2]);
        }
    }

    private static void twoNumbers() {
        for (int kind : new int[] {Macroloom.SUM, Macroloom.MINUS, Macroloom.TIMES, Macroloom.OVER, Macroloom.BELOW}) {
            fresh();
            int zero = num(0), one = num(1), function = fun(0, one), generator = gen(one);
            for (int other : new int[] {function, generator}) {
                int first = two(kind, other, one);
                costs("a of " + kind, first, TYPE, 3);
                trace("a of " + kind, first);
                costs("b of " + kind, two(kind, one, other), TYPE, 3);
                costs("both of " + kind, two(kind, other, other), TYPE, 3);
                costs("ahead of ZERO, of " + kind, two(kind, other, zero), TYPE, 3);
                costs("a of " + kind + ", behind b", two(kind, other, stay(0, one)), TYPE, 4);
            }
            due("behind b", x.register(0), 1);
            runs("of numbers", two(kind, zero, one), kind == Macroloom.MINUS ? -1 : kind == Macroloom.SUM || kind == Macroloom.BELOW ? 1 : 0);
        }
    }

    private static void sameValues() {
        int[][] table = {{0, 0, 1}, {0, 1, 0}, {0, -1, 0}, {1, -1, 0}, {9999, 9999, 1}, {9999, 9998, 0}, {-9999, -9999, 1}, {-9999, 9999, 0}};
        for (int[] row : table) {
            reckons(Macroloom.SAME, row[0], row[1], row[2]);
        }
        fresh();
        int zero = num(0), function = fun(0, zero), generator = gen(zero);
        runs("a function and 0", same(function, zero), 0);
        runs("a generator and 0", same(zero, generator), 0);
        runs("a function and a generator", same(function, generator), 0);
        runs("two functions of one node", same(function, function), 0);
        runs("two generators of one node", same(generator, generator), 0);
        runs("one function", then(let(0, function), same(name(0), name(0))), 1);
        runs("one generator", then(let(0, generator), same(name(0), name(0))), 1);
        runs("one function in two cells", then(let(0, function), let(1, name(0)), same(name(1), name(0))), 1);
        runs("a function and the next one", then(let(0, function), same(name(0), function)), 0);
        runs("one generator, before and behind", then(let(0, generator), same(name(0), then(ask(name(0)), name(0)))), 1);
        runs("a function is no number of its own", same(function, num(9999)), 0);
    }

    private static void notZero() {
        int yes = num(5), no = num(6);
        int[] numbers = {1, -1, 9999, -9999};
        for (int number : numbers) {
            runs("IF " + number, iff(num(number), yes, no), 5);
        }
        runs("IF 0", iff(num(0), yes, no), 6);
        runs("IF 0 by reckoning", iff(minus(yes, yes), yes, no), 6);
        runs("IF the first function", iff(fun(0, yes), yes, no), 5);
        runs("IF the first generator", iff(gen(yes), yes, no), 5);
        int first = stay(0, yes), second = stay(1, no);
        runs("b alone", iff(yes, first, second), 5);
        due("not c", x.register(1), 0);
        x.run(stay(0, num(0)));
        runs("c alone", iff(num(0), first, second), 6);
        due("not b", x.register(0), 0);
        runs("the value is a function", iff(num(0), yes, fun(0, yes)), FUN);
    }

    private static void oneBehindTheOther() {
        int first = stay(0, num(4)), second = stay(0, num(5));
        costs("the value of b", then(first, second), 5, 5);
        due("b is the later one", x.register(0), 5);
        costs("the value of b", then(second, first), 4, 5);
        due("b is the later one", x.register(0), 4);
        runs("the value of a does not matter", then(fun(0, first), num(0)), 0);
        runs("a function as b", then(num(0), fun(0, first)), FUN);
        runs("an error of a, and b is not begun", then(fail(3), second), ERROR + 3);
        due("b is not begun", x.register(0), 4);
        runs("an error of b, and a was done", then(second, fail(3)), ERROR + 3);
        due("a was done", x.register(0), 5);
    }

    private static void scopes() {
        int sees = name(0);
        runs("the outer one is seen", then(let(0, num(4)), scope(sees)), 4);
        runs("a new one", then(scope(let(0, num(4))), sees), UNBOUND);
        runs("each time a new one", then(scope(let(0, num(4))), scope(sees)), UNBOUND);
        int deepest = sees;
        for (int depth = 0; depth < 60; depth++) {
            deepest = scope(deepest);
        }
        costs("60 of them", then(let(0, num(4)), deepest), 4, 64);
        int farther = deepest;
        for (int depth = 60; depth < 100; depth++) {
            farther = scope(farther);
        }
        costs("100 of them", farther, UNBOUND, 101);
        manyScopes();
    }

    private static void manyScopes() {
        fresh();
        int inner = then(let(3, sum(name(0), num(1))), name(3));
        for (int depth = 0; depth < 80; depth++) {
            inner = scope(inner);
        }
        x.define(0, 1, inner, NONE);
        x.setBudget(600);
        int value = num(1);
        for (int turn = 0; turn < 6; turn++) {
            value = call(0, value, NONE);
        }
        runs("6 times 80 of them", value, 7);
        due("as many steps", x.steps(), 1 + 6 * 87);
        for (int turn = 0; turn < 20; turn++) {
            x.run(value);
        }
        due("in each run anew", x.outcome(), 7);
        fresh();
        // The scope that a function keeps stays as it is, however many come behind it.
        int goesOn = put(1, sum(name(1), num(1))), turns = iff(below(goesOn, num(56)), name(5), leave(0, name(5)));
        x.define(1, 1, fun(7, put(0, sum(name(0), num(1)))), NONE);
        x.setBudget(600);
        runs("the first of many scopes", then(let(1, num(0)), let(5, num(8)), let(6, call(1, num(40), NONE)), loop(0, turns), apply(name(6), num(0))), 41);
    }

    /** Nodes of each kind that ends with a value, of those that bind a name but LET. */
    private static int[] endingWithValues() {
        fresh();
        int one = num(1);
        x.define(0, 2, one, one);
        x.define(1, 1, one, NONE);
        x.write(0, 3);
        x.run(then(hook(1), move(1)));
        return new int[] {one, sum(one, one), same(one, one), iff(one, one, one), then(one, one), scope(one), loop(0, leave(0, one)), fun(0, one),
            apply(fun(0, one), one), call(0, one, one), call(0, NONE, NONE), attempt(0, fail(1), one), last(one, one), gen(one), ask(gen(yielded(one))),
            ask(gen(one)), option(0, one, one), get(0), stay(0, one), insert(1), erase(), move(0), here(), behind(), letters(), another(0), each(one),
            into(0), reload(0, one), hook(1)};
    }

    private static void noOtherCells() {
        int count = endingWithValues().length;
        for (int which = 0; which < count; which++) {
            int node = endingWithValues()[which], end = num(2);
            x.start(scope(scope(then(node, end))));
            for (int turn = 0; turn < 30 && x.next() != end; turn++) {
                x.step(1);
            }
            due("behind the node " + node, x.next(), end);
            for (int name = 0; name < 8; name++) {
                due("the name " + name + " behind the node " + node, x.look(name), UNBOUND);
            }
        }
    }

    private static void loops() {
        for (int label = 0; label < 4; label++) {
            runs("label " + label, loop(label, leave(label, num(label))), label);
        }
        noArgument("label 4", () -> loop(4, 0));
        noArgument("label -1", () -> loop(-1, 0));
        noArgument("BREAK 4", () -> leave(4, 0));
        noArgument("NEXT -1", () -> again(-1));
        int bound = attempt(1, name(0), num(-1));
        runs("a new scope each time", then(let(7, num(0)), loop(0, then(let(6, bound), let(0, num(5)), put(7, sum(name(7), num(1))),
            iff(below(name(7), num(3)), num(0), leave(0, name(6)))))), -1);
        runs("whose outer one is the innermost one", then(let(0, num(1)), loop(0, then(put(0, sum(name(0), name(0))), iff(below(name(0), num(60)), num(0), leave(0, name(0)))))), 64);
        runs("gone behind it", then(loop(0, then(let(0, num(1)), leave(0, num(2)))), name(0)), UNBOUND);
        x.setBudget(7);
        costs("again and again", loop(0, num(1)), BUDGET, 7);
        costs("again and again", loop(0, then(num(0), num(0))), BUDGET, 7);
    }

    private static void breaks() {
        for (int label = 0; label < 4; label++) {
            fresh();
            int leaves = leave(label, stay(0, num(7)));
            int nest = leaves;
            for (int around = 3; around >= 0; around--) {
                nest = loop(around, sum(nest, num(100)));
            }
            // The loops within that of the label are left; that of the label adds 100, and goes on for ever.
            x.setBudget(60);
            runs("label " + label + " alone", loop(label, sum(leaves, num(100))), 7);
            runs("none of label " + label, loop((label + 1) % 4, leaves), ASTRAY);
            trace("none of label " + label, leaves);
            due("behind b", x.register(0), 7);
            runs("none at all", leaves, ASTRAY);
            runs("its own loop, out of the inner ones", loop(label, loop((label + 1) % 4, loop((label + 2) % 4, leaves))), 7);
            runs("the innermost of two", loop((label + 1) % 4, leave((label + 1) % 4, sum(loop(label, loop(label, then(leaves, num(1)))), num(1)))), BUDGET);
            runs("the innermost of two", loop(label, leave(label, sum(loop(label, leaves), num(1)))), 8);
            runs("once more", nest, label == 0 ? 7 : BUDGET);
        }
        fresh();
        runs("within b of another one", loop(0, loop(1, leave(0, leave(1, num(4))))), BUDGET);
        runs("a loop that is over", then(loop(0, leave(0, num(1))), leave(0, num(2))), ASTRAY);
        runs("out of a function", loop(0, apply(fun(0, leave(0, num(1))), num(1))), ASTRAY);
        runs("out of TRY", loop(0, attempt(0, leave(0, num(4)), num(5))), 4);
        runs("out of its c", loop(0, attempt(0, fail(1), leave(0, num(4)))), 4);
    }

    private static void nexts() {
        int up = put(0, sum(name(0), num(1))), often = below(up, num(3));
        for (int label = 0; label < 4; label++) {
            int goes = loop(label, iff(often, sum(again(label), num(1)), leave(label, name(0))));
            runs("label " + label, then(let(0, num(0)), goes), 3);
            runs("out of an inner one", then(let(0, num(0)), loop(label, iff(often, loop((label + 1) % 4, again(label)), leave(label, name(0))))), 3);
            int none = again(label);
            costs("none at all", none, ASTRAY, 1);
            trace("none at all", none);
            costs("none of this label", loop((label + 1) % 4, none), ASTRAY, 2);
        }
        fresh();
        int counts = put(0, sum(name(0), num(1)));
        runs("the innermost of two", then(let(0, num(0)), loop(0, then(loop(0, iff(below(counts, num(3)), again(0), leave(0, num(1)))), leave(0, name(0))))), 3);
        runs("out of a function", loop(0, apply(fun(0, again(0)), num(1))), ASTRAY);
        x.setBudget(5);
        costs("for ever", loop(0, again(0)), BUDGET, 5);
    }

    private static void errors() {
        int caught = name(0), one = num(1);
        due("UNBOUND", Macroloom.UNBOUND, -1);
        due("ASTRAY", Macroloom.ASTRAY, -6);
        due("BUDGET", Macroloom.BUDGET, -7);
        runs("UNBOUND", attempt(0, name(1), caught), -1);
        runs("ZERO", attempt(0, two(Macroloom.OVER, one, num(0)), caught), -2);
        runs("TYPE", attempt(0, ask(one), caught), -3);
        runs("RANGE", attempt(0, erase(), caught), -4);
        x.define(0, 0, call(0, NONE, NONE), NONE);
        runs("DEPTH", attempt(0, call(0, NONE, NONE), caught), -5);
        runs("ASTRAY", attempt(0, again(0), caught), -6);
        runs("as outcomes", name(1), 49999);
        runs("as outcomes", two(Macroloom.OVER, one, num(0)), 49998);
        runs("as outcomes", ask(one), 49997);
        runs("as outcomes", erase(), 49996);
        runs("as outcomes", call(0, NONE, NONE), 49995);
        runs("as outcomes", again(0), 49994);
        runs("as outcomes", loop(0, one), 49993);
        runs("THROW", attempt(0, fail(12), caught), 12);
    }

    private static void tries() {
        int caught = name(0);
        for (int error : new int[] {-9999, -7, -1, 0, 1, 9999}) {
            runs("the error " + error, attempt(0, fail(error), caught), error);
        }
        runs("the last name", attempt(7, fail(4), name(7)), 4);
        costs("no error", attempt(0, num(3), fail(4)), 3, 2);
        costs("an error of c", attempt(0, fail(3), fail(4)), ERROR + 4, 5);
        runs("a value of b that is its error's number", attempt(0, num(-1), num(5)), -1);
        runs("as told at SCOPE: a new one", then(attempt(0, fail(3), let(1, num(2))), name(1)), UNBOUND);
        runs("its cell too", then(attempt(0, fail(3), num(2)), caught), UNBOUND);
        runs("b is done in the scope itself", then(attempt(0, let(1, num(6)), num(2)), name(1)), 6);
        fresh();
        int sees = name(0);
        runs("its outer one is the innermost one of TRY", then(let(1, num(5)), attempt(0, scope(then(let(1, num(6)), fail(3))), sum(name(1), sees))), 8);
        runs("out of a call", attempt(0, apply(fun(1, fail(3)), num(1)), sees), 3);
        runs("the inner one catches", attempt(0, attempt(0, fail(3), fail(4)), sees), 4);
        runs("the inner one catches", attempt(0, sum(attempt(0, fail(3), sees), num(1)), num(9)), 4);
        runs("it is there again", then(attempt(0, fail(3), num(1)), attempt(0, fail(4), sees)), 4);
        runs("in a loop, each time", then(let(1, num(0)), loop(0, attempt(0, thrown(put(1, sum(name(1), num(1)))), iff(below(sees, num(3)), num(0), leave(0, sees))))), 3);
        runs("RETURN is no error", apply(fun(1, attempt(0, back(num(4)), num(5))), num(1)), 4);
        runs("NEXT is no error", then(let(1, num(0)), loop(0, iff(below(put(1, sum(name(1), num(1))), num(2)), attempt(0, again(0), leave(0, num(9))), leave(0, name(1))))), 2);
    }

    private static void howeverItEnded() {
        int note = stay(0, num(6)), none = stay(0, num(0));
        int[] ends = {num(1), fail(2), leave(0, num(3)), back(num(4)), erase(), again(1)};
        int[] want = {1, ERROR + 2, 3, 4, RANGE, BUDGET};
        x.setBudget(80);
        for (int i = 0; i < ends.length; i++) {
            x.run(none);
            runs("end " + i, apply(fun(0, loop(1, loop(0, leave(0, last(ends[i], note))))), num(0)), i == 0 || i == 2 || i == 5 ? BUDGET : want[i]);
            due("done at end " + i, x.register(0), 6);
            x.run(none);
            runs("end " + i, apply(fun(0, last(loop(0, loop(1, leave(0, ends[i]))), note)), num(0)), want[i]);
            due("done at end " + i, x.register(0), i == 5 ? 0 : 6);
        }
        fresh();
        costs("each once", last(num(1), num(2)), 1, 3);
        costs("each once", last(fail(1), num(2)), ERROR + 1, 4);
        runs("b sees what a did", last(then(let(0, num(5)), fail(1)), stay(0, name(0))), ERROR + 1);
        due("b sees what a did", x.register(0), 5);
        runs("nested: the inner one first", then(let(0, num(0)), last(last(num(1), put(0, num(5))), put(0, sum(name(0), num(1)))), name(0)), 6);
    }

    /** How a part can end: with the value 1, the error 2, BREAK 0, NEXT, RETURN; the numbers of b are by 10 more. */
    private static int ending(int how, int more) {
        switch (how) {
            case 0: return num(1 + more);
            case 1: return fail(2 + more);
            case 2: return leave(0, num(3 + more));
            case 3: return again(more == 0 ? 2 : 3);
            default: return back(num(504 + more));
        }
    }

    private static void endsAsEither() {
        int[] wantOfA = {101, 202, 303, 400, 504};
        int[] wantOfB = {111, 212, 313, 401, 514};
        for (int a = 0; a < 5; a++) {
            for (int b = 0; b < 5; b++) {
                fresh();
                // What b does by itself, leaving a loop and catching an error that has a cause, does not matter.
                int busy = then(loop(0, leave(0, num(9))), attempt(1, last(fail(8), fail(9)), num(7)), stay(0, num(8)));
                int both = last(ending(a, 0), then(busy, ending(b, 10)));
                int inner = loop(0, leave(1, sum(both, num(100))));
                int middle = loop(1, leave(1, sum(inner, num(300))));
                int second = loop(2, iff(name(5), leave(2, num(400)), then(put(5, num(1)), leave(2, middle))));
                int third = loop(3, iff(name(4), leave(3, num(401)), then(put(4, num(1)), leave(3, second))));
                int caught = attempt(6, third, sum(name(6), num(200)));
                runs("a ends by " + a + ", b by " + b, then(let(4, num(0)), let(5, num(0)), apply(fun(7, caught), num(0))), b == 0 ? wantOfA[a] : wantOfB[b]);
                due("b was done", x.register(0), 8);
            }
        }
    }

    private static void throwsAny() {
        for (int error : new int[] {-9999, -9998, -8, -7, -6, -1, 0, 1, 9998, 9999}) {
            int throwing = fail(error);
            costs("THROW " + error, throwing, ERROR + error, 2);
            due("without a cause", x.cause(), ERROR);
            trace("THROW " + error, throwing);
        }
        int function = thrown(fun(0, num(1))), generator = thrown(gen(num(1)));
        costs("a function", function, TYPE, 2);
        trace("a function", function);
        costs("a generator", generator, TYPE, 2);
        runs("-7 is caught", attempt(0, fail(-7), name(0)), -7);
        runs("-7 heeds FINALLY", last(fail(-7), stay(0, num(3))), BUDGET);
        due("-7 heeds FINALLY", x.register(0), 3);
        int again = thrown(name(0));
        x.run(attempt(0, last(fail(1), fail(2)), again));
        due("of an error that had a cause", x.outcome(), ERROR + 2);
        due("without a cause", x.cause(), ERROR);
        trace("it came about anew", again);
    }

    private static void optionsHold() {
        for (int option = 0; option < 4; option++) {
            fresh();
            x.setOption(option, 5);
            x.setOption((option + 1) % 4, 6);
            int get = get(option), set = num(7);
            costs("while c is done", option(option, set, get), 7, 3);
            due("again what it was", x.option(option), 5);
            runs("the one beside it stays", option(option, set, get((option + 1) % 4)), 6);
            runs("not yet while b is done", option(option, sum(get, num(1)), get), 6);
            runs("a value", then(option(option, set, num(1)), get), 5);
            runs("an error", then(attempt(0, option(option, set, fail(1)), num(1)), get), 5);
            runs("in the c of TRY", attempt(0, option(option, set, fail(1)), get), 5);
            runs("BREAK", then(loop(0, option(option, set, leave(0, num(1)))), get), 5);
            runs("b of FINALLY", option(option, set, last(num(1), stay(0, get))), 1);
            due("still in the c", x.register(0), 7);
            runs("ended ahead of a b around it", last(option(option, set, fail(1)), stay(0, get)), ERROR + 1);
            due("again what it was", x.register(0), 5);
        }
        fresh();
        int get = get(3);
        runs("RETURN", then(apply(fun(0, option(3, num(7), back(num(1)))), num(1)), get), 0);
        runs("NEXT", then(let(0, num(0)), loop(0, iff(name(0), leave(0, get), then(put(0, num(1)), option(3, num(7), again(0)))))), 0);
        runs("nested", option(3, num(7), then(option(3, num(8), num(1)), get)), 7);
        runs("an error of b", then(attempt(0, option(3, fail(1), num(1)), num(1)), get), 0);
        runs("within a call", then(let(0, fun(1, get)), option(3, num(9), apply(name(0), num(1)))), 9);
        int rests = gen(then(option(3, yielded(num(1)), num(2)), yielded(get))), asked = ask(name(0));
        runs("what it was when c began, not b", then(let(0, rests), option(3, num(4), asked), option(3, num(9), asked)), 9);
        runs("what it was when c began, not b", then(let(0, rests), option(3, num(4), asked), asked), 0);
        x.setBudget(3);
        runs("BUDGET", option(3, num(7), then(num(1), num(1))), BUDGET);
        due("BUDGET", x.option(3), 0);
        noArgument("option 4", () -> option(4, get, get));
        noArgument("option -1", () -> option(-1, get, get));
    }

    private static void gets() {
        for (int option = 0; option < 4; option++) {
            x.setOption(option, 11 * option - 16);
        }
        for (int option = 0; option < 4; option++) {
            costs("option " + option, get(option), 11 * option - 16, 1);
        }
        noArgument("GET 4", () -> get(4));
        noArgument("GET -1", () -> get(-1));
        runs("a function", option(0, fun(0, num(1)), get(0)), FUN);
    }

    private static void stays() {
        for (int register = 0; register < 4; register++) {
            due("at first", x.register(register), 0);
            costs("STAY " + register, stay(register, num(register - 9999)), register - 9999, 2);
        }
        for (int register = 0; register < 4; register++) {
            due("each its own", x.register(register), register - 9999);
        }
        runs("the greatest", stay(3, num(9999)), 9999);
        due("the greatest", x.register(3), 9999);
        int function = stay(3, fun(0, num(1))), generator = stay(3, gen(num(1)));
        costs("a function", function, TYPE, 2);
        trace("a function", function);
        costs("a generator", generator, TYPE, 2);
        due("unchanged", x.register(3), 9999);
        runs("an error of b", stay(3, fail(2)), ERROR + 2);
        due("unchanged", x.register(3), 9999);
        noArgument("register 4", () -> stay(4, 0));
        noArgument("register -1", () -> stay(-1, 0));
    }
}
