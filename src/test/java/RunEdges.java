/** "Runs", and what is told of them: the budget, causes, generators that are closed, what is undone, the trace. Promises 8 to 10 and 18 to 22. */
final class RunEdges extends Edges {
    static void all() {
        edge(8, "An object is used for at most 512 calls after it has been made; what later calls answer is free.", RunEdges::calls512);
        edge(8, "A run does a node as a body, in a scope without an outer one.", RunEdges::ownScope);
        edge(8, "A budget is how many steps it may cost, 300 at first.", RunEdges::budgetOf300);
        edge(8, "When a node would be begun beyond the budget, the run ends with the error BUDGET at once, whatever is told of errors and of FINALLY.", RunEdges::beyondBudget);
        edge(20, "Errors by FINALLY: when b ends with an error, while an error of a was on its way, that is the cause of the new one.", RunEdges::causes);
        edge(8, "If what is run ends with a value, then, as long as some generator rests, that with the lowest number is closed", RunEdges::closing);
        edge(8, "it goes on as if its YIELD ended by RETURN (this is no call, and not active).", RunEdges::closingByReturn);
        edge(8, "When its body has ended, it is spent; if it ended with an error, the run ends with that, and no further one is closed.", RunEdges::closingByError);
        edge(8, "If a run ends with an error, all is again as it was when it began, but for the registers: texts, cursors, options, slots, the hook, and which buffer is current.", RunEdges::undone);
        edge(8, "Functions and generators are gone when a run has ended; if its value is one, it is told by its number.", RunEdges::goneBehind);
        edge(21, "The trace of an error that ends a run is the node by which it came about (with all that is told of that node alone), and then the nodes APPLY, CALL, ASK and INSERT by which the calls that were active then had been made, the latest first.", RunEdges::traces);
        edge(21, "BUDGET comes about by the node that would be begun", RunEdges::traceOfBudget);
        edge(8, "Returns its outcome: the value, if it is a number; 20000 and the number of a function, or 30000 and that of a generator, together; 50000 and the error, together, if it ended with one.", RunEdges::outcomes);
        edge(9, "Tells what run() would return, by compiled code, and changes nothing, registers neither.", RunEdges::triedChangesNothing);
        edge(10, "Tells how many steps run() would cost, by compiled code, and changes nothing.", RunEdges::triedStepsToo);
        edge(18, "Returns the outcome of the run that has ended last; 0 at first.", RunEdges::lastOutcome);
        edge(19, "Returns how many steps the run cost that has ended last; 0 at first.", RunEdges::lastSteps);
        edge(20, "Returns the cause of the error of the run that has ended last, the error itself, -9999 to 9999; 50000 if it has none, or ended with a value, and at first.", RunEdges::lastCause);
        edge(21, "Returns how many nodes the trace of the run that has ended last has; 0 if it ended with a value, and at first.", RunEdges::lastTraced);
        edge(22, "`place`: 0 for where the error came about", RunEdges::lastTrace);
    }

    private static void calls512() {
        int node = then(let(0, num(7)), name(0));
        for (int made = 4; made < 120; made++) {
            node = made < 60 ? scope(node) : num(made);
        }
        int longest = 59;
        for (int call = 121; call < 500; call++) {
            x.run(longest);
        }
        x.setBudget(600);
        x.write(0, 1);
        x.start(longest);
        x.step(30);
        due("the 504th", x.next(), 29);
        x.giveUp();
        x.setBudget(60);
        due("the 507th", x.tried(longest), 7);
        due("the 508th", x.triedSteps(longest), 60);
        due("the 509th", x.run(longest), 7);
        due("the 510th", x.steps(), 60);
        due("the 511th", x.letter(0, 0), 1);
        due("the 512th", x.size(longest), 60);
    }

    private static void ownScope() {
        int binds = let(3, num(4)), sees = name(3);
        runs("LET", binds, 4);
        runs("gone in the next run", sees, UNBOUND);
        runs("gone in the next run, for PUT", put(3, num(1)), UNBOUND);
        x.tried(binds);
        runs("gone behind tried", sees, UNBOUND);
        x.start(then(binds, num(1)));
        x.step(3);
        due("while it is stepped", x.look(3), 4);
        x.giveUp();
        runs("gone behind giveUp", sees, UNBOUND);
        runs("as a body: BREAK", leave(0, num(1)), ASTRAY);
        runs("as a body: RETURN", back(num(1)), ASTRAY);
        runs("as a body: YIELD", yielded(num(1)), ASTRAY);
    }

    /** A node that costs so many steps; calls of the slot 0, each for 100 of them, keep it small. */
    private static int costing(int steps) {
        x.define(0, 0, sized(98), NONE);
        int hundred = call(0, NONE, NONE), node = sized((steps - 1) % 100 + 1);
        for (int turn = 0; turn < (steps - 1) / 100; turn++) {
            node = then(hundred, node);
        }
        return node;
    }

    private static void budgetOf300() {
        costs("299", costing(299), 0, 299);
        costs("300", costing(300), 0, 300);
        costs("301", costing(301), BUDGET, 300);
        fresh();
        due("the budget", x.setBudget(600), 300);
        costs("600", costing(600), 0, 600);
        fresh();
        x.setBudget(600);
        costs("601", costing(601), BUDGET, 600);
        fresh();
        int three = sum(num(1), num(2));
        x.setBudget(3);
        costs("as many as the budget", three, 3, 3);
        x.setBudget(2);
        costs("one less", three, BUDGET, 2);
        x.setBudget(1);
        costs("two less", three, BUDGET, 1);
        costs("one step", num(-9999), -9999, 1);
        x.setBudget(3);
        costs("an error by the last step", sum(num(1), fail(4)), BUDGET, 3);
        x.setBudget(4);
        costs("an error by the last step", sum(num(1), fail(4)), ERROR + 4, 4);
    }

    private static void beyondBudget() {
        int one = num(1), marks = stay(0, num(5)), two = then(one, one);
        int[] around = {attempt(0, two, marks), last(two, marks), attempt(0, attempt(1, two, marks), marks), last(last(two, marks), marks),
            loop(0, last(two, leave(0, marks))), option(0, one, last(two, marks))};
        int[] budgets = {3, 3, 4, 4, 4, 5};
        for (int i = 0; i < around.length; i++) {
            x.setBudget(budgets[i]);
            costs("at once, " + i, around[i], BUDGET, budgets[i]);
            trace("at once, " + i, one);
            due("without a cause", x.cause(), ERROR);
            due("not done", x.register(0), 0);
        }
        due("no option either", x.option(0), 0);
        x.setBudget(6);
        int late = last(fail(7), then(one, then(one, one)));
        costs("in b, while an error is on its way", late, BUDGET, 6);
        due("that is not the cause", x.cause(), ERROR);
        x.setBudget(9);
        runs("one more is enough", late, ERROR + 7);
        fresh();
        one = num(1);
        int asked = ask(gen(then(yielded(one), one)));
        x.setBudget(5);
        costs("ahead of where it goes on", attempt(0, then(let(0, gen(last(yielded(one), one))), ask(name(0))), one), BUDGET, 5);
        costs("what asks", asked, 1, 5);
        x.setBudget(4);
        costs("in a body", asked, BUDGET, 4);
        trace("in a body", one, asked);
        x.setBudget(6);
        int closes = ask(gen(last(yielded(one), then(one, one))));
        costs("while one is closed", closes, BUDGET, 6);
        trace("while one is closed", one);
        x.setBudget(8);
        costs("as many as it needs", closes, 1, 8);
    }

    private static void causes() {
        int one = fail(1), two = fail(2), value = num(5);
        causes("none on its way", last(value, two), 2, ERROR);
        causes("an error of a", last(one, two), 2, 1);
        causes("the least", last(fail(-9999), two), 2, -9999);
        causes("the greatest", last(fail(9999), two), 2, 9999);
        causes("0", last(fail(0), two), 2, 0);
        causes("the same one", last(one, one), 1, 1);
        causes("b ends with a value", last(one, value), 1, ERROR);
        causes("BREAK was on its way", loop(0, last(leave(0, value), two)), 2, ERROR);
        causes("NEXT was on its way", loop(0, last(again(0), two)), 2, ERROR);
        causes("RETURN was on its way", apply(fun(0, last(back(value), two)), value), 2, ERROR);
        causes("UNBOUND", last(name(0), erase()), Macroloom.RANGE, Macroloom.UNBOUND);
        fresh();
        one = fail(1);
        two = fail(2);
        int three = fail(3), value2 = num(5), both = last(one, two);
        causes("a's own cause goes on", last(both, value2), 2, 1);
        causes("the error of a, not its cause", last(both, three), 3, 2);
        causes("the error of a, not b's own cause", last(three, both), 2, 3);
        causes("b's own cause, where a has a value", last(value2, both), 2, 1);
        causes("caught", attempt(0, both, value2), 5, ERROR);
        causes("caught, and another one", attempt(0, both, three), 3, ERROR);
        causes("an error that b catches is none", last(one, attempt(0, three, value2)), 1, ERROR);
        causes("an error that a catches is none", last(attempt(0, three, value2), two), 2, ERROR);
        causes("b has a cause of its own meanwhile", last(both, attempt(0, last(three, fail(4)), value2)), 2, 1);
        trace("b has errors of its own meanwhile", two);
        causes("through calls", apply(fun(0, both), value2), 2, 1);
        causes("through generators", ask(gen(both)), 2, 1);
        causes("by calls", last(apply(fun(0, one), value2), apply(fun(0, two), value2)), 2, 1);
        fresh();
        int inner = last(fail(1), fail(2)), ends = num(5);
        causes("BREAK out of b takes it away", loop(0, last(inner, leave(0, ends))), 5, ERROR);
        int rests = gen(last(fail(1), then(yielded(ends), fail(2))));
        causes("b rests meanwhile", then(let(0, rests), ask(name(0)), attempt(1, fail(4), ends), ask(name(0))), 2, 1);
        causes("b rests, and is closed: RETURN goes ahead", ask(gen(last(fail(1), yielded(ends)))), 5, ERROR);
        causes("an error while one is closed", ask(gen(last(yielded(ends), fail(2)))), 2, ERROR);
        causes("an error of a while one is closed", ask(gen(last(yielded(ends), inner))), 2, 1);
        x.define(0, 1, inner, NONE);
        causes("through the hook", then(hook(0), insert(1)), 2, 1);
        int forever = loop(1, ends);
        causes("BUDGET while an error with a cause is on its way", last(inner, forever), Macroloom.BUDGET, ERROR);
        causes("BUDGET behind an error with a cause", attempt(0, inner, forever), Macroloom.BUDGET, ERROR);
    }

    private static void causes(String what, int node, int outcome, int cause) {
        int told = cause == ERROR && outcome == 5 ? 5 : ERROR + outcome;
        runs(what, node, told);
        due(what + ", cause", x.cause(), cause);
    }

    private static void closing() {
        int asked = ask(name(0)), other = ask(name(1));
        int first = let(0, gen(last(yielded(num(4)), stay(0, stay(1, num(6)))))), second = let(1, gen(last(yielded(num(5)), stay(1, num(7)))));
        costs("none rests", then(first, second), GEN + 1, 5);
        costs("one rests", then(first, second, asked), 4, 14);
        due("the first", x.register(0), 6);
        due("not the second", x.register(1), 6);
        runs("the second one alone", then(first, second, other), 5);
        due("the second one alone", x.register(1), 7);
        runs("both rest: the lowest first", then(first, second, other, asked), 4);
        due("the lowest first, the other one last", x.register(1), 7);
        x.run(stay(1, num(0)));
        runs("the value 0", then(first, second, asked, other, num(0)), 0);
        due("the value 0: the first was closed", x.register(0), 6);
        due("the value 0: the second was closed", x.register(1), 7);
        runs("made in the other order", then(second, first, other, asked), 4);
        due("made in the other order", x.register(1), 6);
        runs("one that is spent", then(first, asked, asked, stay(1, num(8))), 8);
        due("one that is spent was not closed", x.register(1), 8);
        runs("an error: none is closed", then(first, stay(1, num(8)), asked, fail(3)), ERROR + 3);
        due("an error: none is closed", x.register(1), 8);
        fresh();
        asked = ask(name(0));
        int made = then(let(0, num(0)), let(1, gen(last(yielded(num(4)), then(ask(name(2)), ask(name(2)), num(1))))),
            let(2, gen(then(yielded(num(5)), stay(2, num(9)), num(1)))));
        runs("one asked to its end by one that is closed", then(made, ask(name(2)), ask(name(1))), 4);
        due("it went on, and was not closed", x.register(2), 9);
        int makes = let(0, gen(last(yielded(num(4)), ask(gen(last(yielded(num(5)), stay(3, num(7))))))));
        runs("one that comes to rest meanwhile", then(makes, asked), 4);
        due("is closed too", x.register(3), 7);
        int lower = then(let(3, gen(last(yielded(num(8)), stay(0, num(5))))), let(4, gen(last(yielded(num(9)), ask(name(3))))), ask(name(4)));
        runs("a lower one that was fresh", lower, 9);
        due("is closed when it has come to rest meanwhile", x.register(0), 5);
        x.setBudget(4);
        costs("closing that begins no node costs nothing", ask(gen(yielded(num(2)))), 2, 4);
        x.setBudget(300);
        runs("the value is that of what is run", then(makes, asked, num(3)), 3);
        runs("the value is a function", then(makes, asked, fun(0, num(1))), FUN);
        runs("the value is the generator", then(makes, asked, name(0)), GEN);
    }

    private static void closingByReturn() {
        int four = num(4), marks = stay(0, num(6)), rests = yielded(four);
        runs("nothing behind its YIELD", ask(gen(then(rests, marks))), 4);
        due("nothing behind its YIELD", x.register(0), 0);
        runs("nor where it would be caught", ask(gen(attempt(0, rests, marks))), 4);
        runs("nor in the next time of a loop", ask(gen(loop(0, then(rests, marks)))), 4);
        due("not done", x.register(0), 0);
        runs("but what must be done at last", ask(gen(last(rests, marks))), 4);
        due("done", x.register(0), 6);
        x.run(stay(0, num(0)));
        runs("the inner one and the outer one", ask(gen(last(last(rests, stay(1, num(7))), marks))), 4);
        due("the inner one", x.register(1), 7);
        due("the outer one", x.register(0), 6);
        runs("b leaves a loop, and it goes on behind that", ask(gen(then(loop(0, last(rests, leave(0, four))), stay(2, num(8))))), 4);
        due("it goes on behind that", x.register(2), 8);
        runs("an option that holds", ask(gen(then(rests, option(0, num(9), four)))), 4);
        due("RETURN in b", x.run(ask(gen(last(rests, back(fail(5)))))), ERROR + 5);
        fresh();
        int marksActive = last(yielded(num(4)), stay(0, num(6)));
        x.start(ask(gen(marksActive)));
        x.step(5);
        due("what begins next", x.next(), marksActive - 1);
        due("not active", x.active(), 0);
        x.step(1);
        due("not active", x.active(), 0);
        x.step(1);
        due("ended", x.outcome(), 4);
        due("ended", x.next(), NONE);
    }

    private static void closingByError() {
        int asked = ask(name(0)), other = ask(name(1)), fails = fail(7), four = num(4), marks = stay(0, num(6));
        int first = let(0, gen(last(yielded(four), fails))), second = let(1, gen(last(yielded(four), marks)));
        int both = then(first, second, asked, other);
        runs("the run ends with that", both, ERROR + 7);
        trace("closing is no call", fails);
        due("no further one", x.register(0), 0);
        int calls = apply(fun(0, fails), four);
        runs("a call while one is closed", ask(gen(last(yielded(four), calls))), ERROR + 7);
        trace("a call while one is closed", fails, calls);
        int third = let(0, gen(last(yielded(four), marks))), fourth = let(1, gen(last(yielded(four), fails)));
        runs("the ones ahead were closed", then(third, fourth, asked, other), ERROR + 7);
        due("the ones ahead were closed", x.register(0), 6);
        write(0, "ab");
        runs("all is undone", then(move(1), insert(5), both), ERROR + 7);
        text("all is undone", 0, "ab");
        x.run(stay(0, num(0)));
        runs("an error that is caught is none", then(let(0, gen(last(yielded(four), attempt(2, fails, four)))), second, asked, other), 4);
        due("the further one", x.register(0), 6);
        fresh();
        int seen = ask(name(0)), five = num(5);
        int spent = let(0, gen(last(yielded(five), five)));
        int looks = let(1, gen(last(yielded(five), stay(1, seen))));
        runs("it is spent when it was closed", then(spent, looks, seen, ask(name(1))), 5);
        due("it is spent when it was closed", x.register(1), -1);
    }

    /** Texts, cursors, options, slots and a hook, and nodes that change these; the last node ends with the error 4. */
    private static int[] changes() {
        fresh();
        x.define(0, 1, num(1), NONE);
        x.define(2, 2, num(2), num(3));
        x.setOption(3, 8);
        write(0, "abc");
        write(1, "xyz");
        x.run(then(move(2), another(1), into(1), another(3), move(1), hook(2)));
        return new int[] {then(insert(5), insert(6)), move(0), another(0), then(move(3), erase()), into(0), then(into(0), insert(7)), hook(NONE),
            hook(0), reload(0, num(9)), reload(2, num(9)), each(erase()), option(3, num(1), fail(4)), fail(4)};
    }

    private static void undone() {
        int[] changes = changes();
        for (int i = 0; i < 12; i++) {
            due("an error behind the change " + i, x.run(then(changes[i], changes[12])), ERROR + 4);
            same(i);
        }
        changes = changes();
        for (int i = 0; i < 12; i++) {
            x.setBudget(x.triedSteps(changes[i]) + 1);
            due("BUDGET behind the change " + i, x.run(then(changes[i], changes[12])), i == 11 ? ERROR + 4 : BUDGET);
            x.setBudget(300);
            same(100 + i);
        }
        fresh();
        runs("but for the registers", then(stay(0, num(1)), stay(3, num(4)), stay(0, num(2)), fail(5)), ERROR + 5);
        due("the last one stays", x.register(0), 2);
        due("the last one stays", x.register(3), 4);
        x.setBudget(4);
        runs("by BUDGET too", then(stay(1, num(7)), num(1), num(1)), BUDGET);
        due("by BUDGET too", x.register(1), 7);
        x.setBudget(300);
        runs("a value undoes nothing", then(insert(3), num(1)), 1);
        text("a value undoes nothing", 0, "d");
    }

    private static void same(int which) {
        text("undone, " + which, 0, "abc");
        text("undone, " + which, 1, "xyz");
        cursors("undone, " + which, 0, 2, 1, NONE, NONE, 0);
        cursors("undone, " + which, 1, 1, 3, NONE, NONE, 0);
        due("undone, " + which, x.buffer(), 1);
        due("undone, " + which, x.hook(), 2);
        due("undone, " + which, x.body(0), 0);
        due("undone, " + which, x.body(2), 1);
        due("undone, " + which, x.option(3), 8);
    }

    private static void goneBehind() {
        int function = fun(0, num(1)), generator = gen(last(yielded(num(4)), stay(0, num(6))));
        runs("a function", function, FUN);
        runs("numbered from 0 again", function, FUN);
        runs("a generator", then(generator, generator), GEN + 1);
        runs("numbered from 0 again", generator, GEN);
        runs("one that was closed", then(let(0, generator), ask(name(0)), name(0)), GEN);
        due("closed", x.register(0), 6);
        x.run(stay(0, num(0)));
        runs("behind an error", then(let(0, generator), ask(name(0)), fail(1)), ERROR + 1);
        due("it is not closed by the next run", x.run(num(3)), 3);
        due("it is not closed by the next run", x.register(0), 0);
        due("it is not closed by the next run", x.steps(), 1);
        x.run(then(let(0, generator), let(1, generator), ask(name(0)), ask(name(1)), fail(1)));
        due("nor is the second one", x.run(then(generator, num(3))), 3);
        due("nor is the second one", x.register(0), 0);
        x.start(then(let(0, generator), ask(name(0)), num(1)));
        x.step(8);
        x.giveUp();
        due("nor behind giveUp", x.run(num(3)), 3);
        due("nor behind giveUp", x.register(0), 0);
        runs("no option is one then", then(option(1, function, num(1)), get(1)), 0);
    }

    private static void traces() {
        int one = num(1), zero = two(Macroloom.OVER, one, num(0));
        x.run(scope(then(one, zero)));
        trace("the node alone", zero);
        int applies = apply(fun(0, zero), one);
        x.run(scope(applies));
        trace("APPLY", zero, applies);
        x.define(0, 0, applies, NONE);
        int calls = call(0, NONE, NONE);
        x.run(scope(calls));
        trace("CALL ahead of APPLY", zero, applies, calls);
        int asks = ask(gen(scope(calls)));
        x.run(scope(asks));
        trace("ASK ahead of them", zero, applies, calls, asks);
        x.define(1, 1, asks, NONE);
        int inserts = insert(3);
        x.run(then(hook(1), inserts));
        trace("INSERT ahead of them", zero, applies, calls, asks, inserts);
        x.run(then(hook(1), apply(fun(0, inserts), one)));
        due("an outer call", x.traced(), 6);
        x.run(sum(calls, one));
        trace("in a later run", zero, applies, calls);
        int caught = attempt(0, calls, zero);
        x.run(caught);
        trace("those that had ended are not active", zero);
        x.run(then(apply(fun(0, one), one), zero));
        trace("those that had ended are not active", zero);
        tracesOfParts();
    }

    private static void tracesOfParts() {
        fresh();
        int one = num(1), zero = two(Macroloom.OVER, one, num(0)), two = fail(2);
        x.run(apply(fun(0, one), zero));
        trace("a part of APPLY", zero);
        x.define(0, 2, one, zero);
        x.run(call(0, zero, NONE));
        trace("an argument", zero);
        x.run(call(0, one, NONE));
        trace("a standard: its CALL is not active yet", zero);
        x.run(last(zero, two));
        trace("the new one of FINALLY", two);
        x.run(last(zero, one));
        trace("the one of a goes on", zero);
        int calls = apply(fun(0, zero), one);
        x.run(last(calls, apply(fun(0, one), one)));
        trace("the calls that were active then", zero, calls);
        x.run(apply(fun(0, last(calls, one)), one));
        due("and those around", x.traced(), 3);
        due("the latest first", x.traceAt(1), calls);
        int first = ask(name(0)), second = ask(name(0));
        x.run(then(let(0, gen(then(yielded(one), zero))), first, second));
        trace("the ASK by which it went on", zero, second);
        x.run(then(let(0, gen(last(zero, yielded(one)))), first, second));
        trace("the ASK that was active then", zero, first);
        int leaves = leave(0, one), back = back(one), astray = apply(fun(0, leaves), one);
        x.run(loop(0, astray));
        trace("ASTRAY", leaves, astray);
        x.run(back);
        trace("ASTRAY", back);
    }

    private static void traceOfBudget() {
        int one = num(1), body = then(one, one), applies = apply(fun(0, body), one);
        x.setBudget(1);
        x.run(applies);
        trace("ahead of the function", applies - 1);
        x.setBudget(2);
        x.run(applies);
        trace("ahead of the argument", one);
        x.setBudget(3);
        x.run(applies);
        trace("ahead of the body: its call is active", body, applies);
        x.setBudget(4);
        x.run(applies);
        trace("in the body", one, applies);
        x.setBudget(6);
        x.run(applies);
        due("enough", x.traced(), 0);
        x.define(0, 2, one, one);
        int calls = call(0, NONE, NONE);
        x.setBudget(1);
        x.run(calls);
        trace("ahead of a standard: its CALL is not active", one);
        x.setBudget(2);
        x.run(calls);
        trace("ahead of the body behind it", one, calls);
        int asks = ask(gen(body));
        x.run(asks);
        trace("ahead of the body of a generator", body, asks);
        x.define(1, 1, body, NONE);
        int inserts = insert(1);
        x.run(hook(1));
        x.setBudget(2);
        x.run(inserts);
        trace("ahead of the body of the hook", body, inserts);
        x.setBudget(1);
        x.run(loop(0, one));
        trace("the part of a loop", one);
    }

    private static void outcomes() {
        int[] values = {-9999, -1, 0, 1, 9999};
        for (int value : values) {
            runs("a number", num(value), value);
            runs("an error", fail(value), 50000 + value);
        }
        runs("the function 0", fun(0, num(1)), 20000);
        runs("the function 1", then(fun(0, num(1)), fun(0, num(1))), 20001);
        runs("the generator 0", gen(num(1)), 30000);
        runs("the generator 1", then(gen(num(1)), gen(num(1))), 30001);
        runs("UNBOUND", name(0), 49999);
        x.setBudget(1);
        runs("BUDGET", scope(num(1)), 49993);
        noIndex("no such node", () -> x.run(-1));
        noIndex("no such node", () -> x.run(100));
    }

    private static void triedChangesNothing() {
        write(0, "ab");
        x.define(0, 1, stay(1, num(6)), NONE);
        int all = then(stay(0, num(5)), move(1), another(0), insert(3), into(1), insert(4), reload(0, num(2)), hook(0), option(2, num(7), stay(2, num(8))));
        x.run(last(fail(1), fail(2)));
        for (int turn = 0; turn < 2; turn++) {
            due("tried", x.tried(all), 8);
            due("tried with an error", x.tried(then(all, fail(3))), ERROR + 3);
            due("triedSteps", x.triedSteps(all), 26);
            due("tried with a hook", x.tried(then(hook(0), insert(1), stay(3, num(1)))), 1);
            text("unchanged", 0, "ab");
            text("unchanged", 1, "");
            cursors("unchanged", 0, 0, NONE, NONE, NONE, 0);
            due("unchanged buffer", x.buffer(), 0);
            due("unchanged hook", x.hook(), NONE);
            due("unchanged body", x.body(0), 1);
            due("unchanged option", x.option(2), 0);
            for (int register = 0; register < 4; register++) {
                due("unchanged register", x.register(register), 0);
            }
            due("outcome", x.outcome(), ERROR + 2);
            due("steps", x.steps(), 5);
            due("cause", x.cause(), 1);
            due("traced", x.traced(), 1);
            due("next", x.next(), NONE);
        }
        for (int node = 0; node <= all; node++) {
            due("breaks", x.breakAt(node, true), false);
        }
        due("they do not matter", x.tried(all), 8);
        due("they do not matter", x.triedSteps(all), 26);
        due("none is stepped", x.next(), NONE);
        for (int node = 0; node <= all; node++) {
            due("they stay", x.breakAt(node, false), true);
        }
        due("run() returns that", x.run(all), 8);
        due("and does it", x.register(2), 8);
        x.run(then(into(1), letters()));
        due("it is told of things as they are", x.tried(letters()), 1);
        noIndex("no such node", () -> x.tried(-1));
        noIndex("no such node", () -> x.tried(119));
        x.start(all);
        noState("a run is stepped", () -> x.tried(all));
        noIndex("a run is stepped, the index first", () -> x.tried(-1));
        due("it goes on", x.next(), all);
    }

    private static void triedStepsToo() {
        int one = num(1), three = sum(one, one);
        due("one", x.triedSteps(one), 1);
        due("three", x.triedSteps(three), 3);
        x.setBudget(3);
        due("as many as the budget", x.triedSteps(three), 3);
        due("as many as the budget", x.tried(three), 2);
        x.setBudget(2);
        due("one less", x.triedSteps(three), 2);
        due("one less", x.tried(three), BUDGET);
        x.setBudget(300);
        due("an error", x.triedSteps(sum(fail(1), one)), 3);
        due("an insertion", x.triedSteps(insert(1)), 2);
        due("not done", x.length(0), 0);
        due("STAY", x.triedSteps(stay(0, one)), 2);
        due("not done", x.register(0), 0);
        due("closing", x.triedSteps(ask(gen(last(yielded(one), three)))), 8);
        due("steps stay", x.steps(), 0);
        due("outcome stays", x.outcome(), 0);
        noIndex("no such node", () -> x.triedSteps(-1));
        noIndex("no such node", () -> x.triedSteps(119));
        x.start(three);
        noState("a run is stepped", () -> x.triedSteps(three));
        noIndex("a run is stepped, the index first", () -> x.triedSteps(119));
    }

    private static void lastOutcome() {
        due("at first", x.outcome(), 0);
        int five = num(5);
        due("nothing has run", x.outcome(), 0);
        due("tried", x.tried(five), 5);
        due("still at first", x.outcome(), 0);
        x.start(five);
        due("begun alone", x.outcome(), 0);
        x.giveUp();
        due("given up", x.outcome(), 0);
        x.run(five);
        due("run", x.outcome(), 5);
        x.run(fail(-9999));
        due("an error", x.outcome(), 40001);
        x.start(sum(five, five));
        x.step(2);
        due("that of the run ahead", x.outcome(), 40001);
        x.step(1);
        due("stepped to its end", x.outcome(), 10);
        noIndex("one that is refused", () -> x.run(-1));
        due("unchanged", x.outcome(), 10);
    }

    private static void lastSteps() {
        due("at first", x.steps(), 0);
        int one = num(1), three = sum(one, one);
        x.triedSteps(three);
        due("still at first", x.steps(), 0);
        x.run(one);
        due("one", x.steps(), 1);
        x.run(three);
        due("three", x.steps(), 3);
        x.start(one);
        due("begun alone", x.steps(), 3);
        x.step(1);
        due("stepped to its end", x.steps(), 1);
        x.start(three);
        x.step(2);
        due("given up", x.giveUp(), 2);
        due("that of the run ahead", x.steps(), 1);
        x.setBudget(2);
        x.run(three);
        due("BUDGET", x.steps(), 2);
        x.run(fail(1));
        due("an error", x.steps(), 2);
    }

    private static void lastCause() {
        due("at first", x.cause(), ERROR);
        int both = last(fail(-9999), fail(1)), most = last(fail(9999), fail(1)), zero = last(fail(0), fail(1)), one = num(1);
        x.run(one);
        due("a value", x.cause(), ERROR);
        x.run(both);
        due("the least", x.cause(), -9999);
        x.run(most);
        due("the greatest", x.cause(), 9999);
        x.run(zero);
        due("0", x.cause(), 0);
        x.tried(both);
        due("tried", x.cause(), 0);
        x.run(fail(1));
        due("none", x.cause(), ERROR);
        x.run(both);
        x.run(one);
        due("a value", x.cause(), ERROR);
        x.run(both);
        x.start(zero);
        x.step(4);
        due("that of the run ahead", x.cause(), -9999);
        x.step(1);
        due("stepped to its end", x.cause(), 0);
        x.start(both);
        x.step(4);
        x.giveUp();
        due("given up", x.cause(), 0);
    }

    private static void lastTraced() {
        due("at first", x.traced(), 0);
        noIndex("at first", () -> x.traceAt(0));
        int one = num(1), fails = fail(3), applies = apply(fun(0, fails), one);
        x.run(one);
        due("a value", x.traced(), 0);
        x.run(fails);
        due("one", x.traced(), 1);
        x.run(applies);
        due("two", x.traced(), 2);
        x.tried(fails);
        due("tried", x.traced(), 2);
        x.start(fails);
        due("begun alone", x.traced(), 2);
        x.giveUp();
        due("given up", x.traced(), 2);
        x.run(deep(12, fails));
        due("most: 12 calls", x.traced(), 13);
        x.run(deep(11, fails));
        due("11 calls", x.traced(), 12);
        x.run(attempt(0, applies, one));
        due("a value", x.traced(), 0);
        noIndex("a value", () -> x.traceAt(0));
        x.start(applies);
        x.step(600);
        due("stepped to its end", x.traced(), 2);
    }

    private static void lastTrace() {
        int fails = fail(3), node = deep(12, fails);
        x.run(node);
        due("where the error came about", x.traceAt(0), fails);
        due("the last one", x.traceAt(12), node - 1);
        for (int place : new int[] {Integer.MIN_VALUE, -1, 13, 14, Integer.MAX_VALUE}) {
            noIndex("place " + place, () -> x.traceAt(place));
        }
        x.run(fails);
        due("shorter then", x.traceAt(0), fails);
        noIndex("place 1", () -> x.traceAt(1));
        x.run(num(1));
        noIndex("a value", () -> x.traceAt(0));
        x.run(apply(fun(0, fails), num(1)));
        x.start(num(1));
        due("while a run is stepped, that ahead of it", x.traceAt(0), fails);
        noIndex("place 2", () -> x.traceAt(2));
    }
}
