/** Runs that are stepped: promises 11 to 17. */
final class StepEdges extends Edges {
    static void all() {
        edge(11, "Runs can be stepped: a run that is begun so rests ahead of its first node", StepEdges::aheadOfTheFirst);
        edge(11, "Throws `IllegalStateException` if a run is stepped", StepEdges::oneAtATime);
        edge(12, "to step is to let nodes begin", StepEdges::nodesBegin);
        edge(12, "`steps`: 1 to 600: as many at most", StepEdges::asManyAtMost);
        edge(12, "Returns how many have begun; fewer if the run has ended, or it stops at a break.", StepEdges::fewer);
        edge(12, "Throws `IllegalStateException` if no run is stepped", StepEdges::noneIsStepped);
        edge(12, "a run that is stepped rests ahead of that, too, and ends when it is to begin.", StepEdges::restsAheadOfBudget);
        edge(13, "Gives a run that is stepped up: it ends, and all is as it was when it began, but for the registers", StepEdges::givenUp);
        edge(13, "there is no outcome of it: outcome() to traceAt() tell of the run ahead of it.", StepEdges::noOutcome);
        edge(13, "Returns how many steps it has cost.", StepEdges::stepsUntilGivenUp);
        edge(14, "it stops ahead of each node that has a break, but for the one at which it rests.", StepEdges::breaks);
        edge(14, "Returns whether it had one.", StepEdges::hadOne);
        edge(15, "Returns the node that begins next in the run that is stepped; NONE if none is stepped.", StepEdges::beginsNext);
        edge(16, "Returns what is in the cell of a name, where the node that begins next is done.", StepEdges::looks);
        edge(16, "Returns the value, as an outcome; 50000 less 1 (UNBOUND) if there is none.", StepEdges::looksAsOutcomes);
        edge(16, "`name`: 0 to 7", StepEdges::looksAtNames);
        edge(17, "Returns how many calls are active in the run that is stepped; 0 if none is stepped.", StepEdges::actives);
    }

    private static void aheadOfTheFirst() {
        int marks = stay(0, num(5));
        x.start(marks);
        due("it rests there", x.next(), marks);
        due("nothing was done", x.register(0), 0);
        due("none is active", x.active(), 0);
        due("no step was made", x.giveUp(), 0);
        noIndex("no such node", () -> x.start(-1));
        noIndex("no such node", () -> x.start(2));
        due("none is stepped", x.next(), NONE);
        x.start(0);
        due("the first node of all", x.next(), 0);
        due("the only step", x.step(1), 1);
        due("its outcome", x.outcome(), 5);
        x.breakAt(1, true);
        x.start(1);
        due("a break there does not matter", x.step(1), 1);
        due("it has begun", x.next(), 0);
    }

    private static void oneAtATime() {
        int one = num(1), two = then(one, one);
        x.start(two);
        for (int turn = 0; turn < 3; turn++) {
            noState("after " + turn, () -> x.start(one));
            noState("after " + turn, () -> x.start(two));
            noState("run after " + turn, () -> x.run(one));
            noIndex("the index first, after " + turn, () -> x.start(2));
            noIndex("the index first, run after " + turn, () -> x.run(-1));
            due("after " + turn, x.step(1), 1);
        }
        due("it has ended", x.next(), NONE);
        x.start(one);
        due("another one", x.next(), one);
        x.giveUp();
        x.start(two);
        due("behind one given up", x.next(), two);
    }

    private static void nodesBegin() {
        int one = num(1), insert = insert(4), marks = stay(0, insert), both = sum(marks, one);
        x.start(both);
        int[] order = {both, marks, insert, insert - 1, one};
        for (int i = 0; i < order.length; i++) {
            due("ahead of " + i, x.next(), order[i]);
            due("no letter before its part is done", x.length(0), i < 4 ? 0 : 1);
            due("nor is the register", x.register(0), i < 4 ? 0 : 4);
            due("one", x.step(1), 1);
        }
        due("what is behind the last one is done at once", x.outcome(), 5);
        due("none is stepped", x.next(), NONE);
        x.start(scope(fail(3)));
        due("an error behind the last one", x.step(3), 3);
        due("an error behind the last one", x.outcome(), ERROR + 3);
    }

    private static void asManyAtMost() {
        int forever = loop(0, num(1));
        x.setBudget(600);
        x.start(forever);
        due("1", x.step(1), 1);
        due("2", x.step(2), 2);
        due("596", x.step(596), 596);
        due("one is left", x.step(600), 1);
        due("ended", x.outcome(), BUDGET);
        x.start(forever);
        due("600", x.step(600), 600);
        due("it rests ahead of the one beyond", x.next(), 0);
        due("and ends", x.step(600), 0);
        x.start(forever);
        for (int steps : new int[] {Integer.MIN_VALUE, -1, 0, 601, Integer.MAX_VALUE}) {
            noArgument("steps " + steps, () -> x.step(steps));
        }
        due("it rests still ahead of the first", x.next(), forever);
        x.giveUp();
        noArgument("the argument first", () -> x.step(0));
        noArgument("the argument first", () -> x.step(601));
    }

    private static void fewer() {
        int one = num(1), three = sum(one, one), stops = then(three, three);
        x.start(three);
        due("just as many", x.step(3), 3);
        due("ended", x.next(), NONE);
        x.start(three);
        due("one less", x.step(2), 2);
        due("not ended", x.next(), one);
        due("fewer: it has ended", x.step(2), 1);
        x.start(three);
        due("fewer: it has ended", x.step(4), 3);
        x.start(sum(fail(1), one));
        due("ended by an error", x.step(4), 3);
        x.breakAt(three, true);
        x.start(stops);
        due("fewer: a break", x.step(600), 1);
        due("fewer: a break", x.step(600), 3);
        due("on to the end", x.step(600), 3);
        x.start(stops);
        due("as many as up to the break", x.step(1), 1);
        due("from the break on", x.step(3), 3);
        due("it rests at a break", x.next(), three);
        due("from the break on", x.step(1), 1);
        due("and farther", x.step(1), 1);
        due("and farther", x.step(1), 1);
        due("outcome", x.outcome(), 2);
    }

    private static void noneIsStepped() {
        noState("step", () -> x.step(1));
        noState("step", () -> x.step(600));
        noState("giveUp", () -> x.giveUp());
        noState("look", () -> x.look(0));
        int one = num(1);
        noState("step", () -> x.step(1));
        x.run(one);
        noState("behind a run", () -> x.step(1));
        x.tried(one);
        noState("behind tried", () -> x.giveUp());
        x.start(one);
        due("stepped", x.step(600), 1);
        noState("ended", () -> x.step(1));
        noState("ended", () -> x.giveUp());
        noState("ended", () -> x.look(7));
        x.start(one);
        x.giveUp();
        noState("given up", () -> x.step(1));
        noState("given up", () -> x.giveUp());
        x.start(fail(1));
        x.step(2);
        noState("ended by an error", () -> x.step(1));
        x.setBudget(1);
        x.start(scope(one));
        x.step(1);
        due("it rests ahead of the one beyond", x.step(1), 0);
        noState("ended by BUDGET", () -> x.step(1));
    }

    private static void restsAheadOfBudget() {
        int one = num(1), marks = stay(0, one), both = then(marks, marks);
        x.run(one);
        x.setBudget(3);
        x.start(both);
        due("as many as the budget", x.step(3), 3);
        due("it rests ahead of the one beyond", x.next(), marks);
        due("outcome of the run ahead", x.outcome(), 1);
        due("it can be looked at", x.look(0), UNBOUND);
        due("it ends when that is to begin", x.step(1), 0);
        due("none is stepped", x.next(), NONE);
        due("outcome", x.outcome(), BUDGET);
        due("steps", x.steps(), 3);
        trace("BUDGET", marks);
        x.start(both);
        due("at once, if more may begin", x.step(4), 3);
        due("outcome", x.outcome(), BUDGET);
        due("none is stepped", x.next(), NONE);
        x.start(both);
        x.step(3);
        due("it can be given up there", x.giveUp(), 3);
        x.breakAt(marks, true);
        x.start(both);
        x.step(1);
        due("a break at the one beyond", x.step(600), 2);
        due("a break at the one beyond", x.next(), marks);
        due("a break at the one beyond", x.step(600), 0);
        x.setBudget(5);
        x.start(both);
        x.step(1);
        x.step(600);
        due("enough", x.step(600), 2);
        due("enough", x.outcome(), 1);
    }

    private static void givenUp() {
        x.define(0, 1, num(1), NONE);
        x.setOption(2, 8);
        write(0, "abc");
        write(1, "x");
        x.run(then(move(2), another(1), into(1), hook(0)));
        int all = then(stay(3, num(5)), into(0), move(0), another(3), hook(NONE), reload(0, num(7)), insert(6), move(4), erase(), option(2, num(9), num(1)), num(2));
        int cost = x.triedSteps(all);
        for (int steps = 0; steps < cost; steps += 3) {
            x.start(all);
            if (steps > 0) {
                x.step(steps);
            }
            due("steps", x.giveUp(), steps);
            text("after " + steps, 0, "abc");
            text("after " + steps, 1, "x");
            cursors("after " + steps, 0, 2, 1, NONE, NONE, 0);
            due("buffer after " + steps, x.buffer(), 1);
            due("hook after " + steps, x.hook(), 0);
            due("body after " + steps, x.body(0), 0);
            due("option after " + steps, x.option(2), 8);
        }
        due("but for the registers", x.register(3), 5);
        fresh();
        int marks = then(stay(0, num(1)), stay(1, num(2)), stay(2, num(3)));
        x.start(marks);
        x.step(5);
        x.giveUp();
        due("as far as it went", x.register(0), 1);
        due("as far as it went", x.register(1), 0);
        x.start(each(then(another(0), num(1))));
        x.step(4);
        due("meanwhile", x.cursor(0, 1), 0);
        x.giveUp();
        due("undone", x.cursor(0, 1), NONE);
    }

    private static void noOutcome() {
        int fails = fail(6), applies = apply(fun(0, last(fail(5), fails)), num(1));
        x.start(num(9));
        x.giveUp();
        due("none ahead", x.outcome(), 0);
        due("none ahead", x.steps(), 0);
        due("none ahead", x.cause(), ERROR);
        due("none ahead", x.traced(), 0);
        x.run(applies);
        int cost = x.steps();
        x.start(last(fail(1), fail(2)));
        x.step(4);
        for (int turn = 0; turn < 2; turn++) {
            due("outcome", x.outcome(), ERROR + 6);
            due("steps", x.steps(), cost);
            due("cause", x.cause(), 5);
            trace("of the run ahead", fails, applies);
            if (turn == 0) {
                x.giveUp();
            }
        }
        x.start(last(fail(1), fail(2)));
        x.step(5);
        due("stepped to its end", x.outcome(), ERROR + 2);
        due("stepped to its end", x.cause(), 1);
        due("stepped to its end", x.steps(), 5);
        due("stepped to its end", x.traced(), 1);
    }

    private static void stepsUntilGivenUp() {
        int node = sized(30);
        for (int steps = 0; steps < 30; steps += 7) {
            x.start(node);
            if (steps > 0) {
                x.step(steps);
            }
            due("after " + steps, x.giveUp(), steps);
        }
        x.start(node);
        x.step(1);
        x.step(28);
        due("after both", x.giveUp(), 29);
        noState("it has ended", () -> x.giveUp());
        x.setBudget(4);
        x.start(node);
        x.step(4);
        due("as many as the budget", x.giveUp(), 4);
    }

    private static void breaks() {
        int one = num(1), inner = scope(one), node = then(inner, inner);
        x.breakAt(inner, true);
        x.start(node);
        due("ahead of it", x.step(600), 1);
        due("ahead of it", x.next(), inner);
        due("not the one at which it rests, but each other time", x.step(600), 3 - 1);
        due("the second time", x.next(), inner);
        due("on to the end", x.step(600), 2);
        due("ended", x.next(), NONE);
        x.breakAt(node, true);
        x.breakAt(one, true);
        x.start(node);
        due("not ahead of the first", x.step(600), 1);
        due("one by one", x.step(600), 1);
        due("the next one has one too", x.next(), one);
        due("one by one", x.step(600), 1);
        due("one by one", x.step(600), 1);
        due("one by one", x.step(600), 1);
        due("ended", x.outcome(), 1);
        due("tried does not heed them", x.tried(node), 1);
        due("nor rests", x.next(), NONE);
        due("triedSteps does not heed them", x.triedSteps(node), 5);
        due("nor rests", x.next(), NONE);
        due("run does not heed them", x.run(node), 1);
        due("nor rests", x.next(), NONE);
        due("run does not heed them", x.steps(), 5);
        x.breakAt(inner, false);
        x.breakAt(one, false);
        x.start(node);
        due("none is left on the way", x.step(600), 5);
        int spins = loop(0, one);
        x.breakAt(one, true);
        x.setBudget(4);
        x.start(spins);
        for (int turn = 0; turn < 4; turn++) {
            due("each time in a loop", x.step(600), 1);
        }
        due("and the one beyond", x.step(600), 0);
        x.start(spins);
        x.step(1);
        x.breakAt(one, false);
        due("one taken while it rests there", x.step(600), 3);
        x.start(spins);
        x.step(2);
        x.breakAt(one, true);
        due("one given while it rests there", x.step(600), 1);
        x.giveUp();
        due("it stays", x.breakAt(one, false), true);
    }

    private static void hadOne() {
        noIndex("no node yet", () -> x.breakAt(0, true));
        int one = num(1), two = num(2);
        due("none at first", x.breakAt(one, false), false);
        due("none still", x.breakAt(one, true), false);
        due("one", x.breakAt(one, true), true);
        due("one still", x.breakAt(one, false), true);
        due("none", x.breakAt(one, false), false);
        due("none of the node beside it", x.breakAt(two, true), false);
        due("each its own", x.breakAt(one, true), false);
        for (int node : new int[] {Integer.MIN_VALUE, -1, 2, 119, 120, Integer.MAX_VALUE}) {
            noIndex("node " + node, () -> x.breakAt(node, true));
        }
        due("the last node", x.breakAt(two, false), true);
        int later = num(3);
        due("a node that came later has none", x.breakAt(later, false), false);
        x.run(then(one, fail(1)));
        due("a run that fails takes none", x.breakAt(one, true), true);
    }

    private static void beginsNext() {
        due("none is stepped", x.next(), NONE);
        int zero = num(0), four = num(4), five = num(5), branch = iff(zero, four, five), marks = stay(0, branch);
        x.start(marks);
        int[] order = {marks, branch, zero, five};
        for (int node : order) {
            due("in their order", x.next(), node);
            x.step(1);
        }
        due("ended", x.next(), NONE);
        x.run(marks);
        due("behind a run", x.next(), NONE);
        x.define(0, 2, four, five);
        int calls = call(0, zero, NONE);
        x.start(calls);
        int[] callOrder = {calls, zero, five, four};
        for (int node : callOrder) {
            due("a standard ahead of the body", x.next(), node);
            x.step(1);
        }
        int caught = attempt(0, erase(), five);
        x.start(caught);
        x.step(2);
        due("what an error goes to", x.next(), five);
        x.giveUp();
        due("given up", x.next(), NONE);
        int rests = yielded(four), closes = ask(gen(last(rests, five)));
        x.start(closes);
        x.step(5);
        due("in one that is closed", x.next(), five);
        x.step(1);
        due("ended", x.next(), NONE);
    }

    private static void looks() {
        int one = num(1), inner = scope(then(let(0, num(5)), one));
        x.start(then(let(0, num(4)), inner, one));
        x.step(3);
        due("ahead of THEN", x.look(0), 4);
        x.step(2);
        due("ahead of THEN, in the new scope", x.look(0), 4);
        x.step(3);
        due("ahead of the last one there", x.next(), one);
        due("the inner one", x.look(0), 5);
        x.step(1);
        due("behind it", x.next(), one);
        due("the outer one", x.look(0), 4);
        x.giveUp();
        x.start(apply(fun(3, one), num(7)));
        x.step(2);
        due("ahead of the argument", x.look(3), UNBOUND);
        x.step(1);
        due("ahead of the body", x.next(), one);
        due("the parameter", x.look(3), 7);
        x.giveUp();
        x.start(then(attempt(2, erase(), one), one));
        x.step(3);
        due("the error in the c of TRY", x.look(2), Macroloom.RANGE);
        x.step(1);
        due("gone behind it", x.look(2), UNBOUND);
        x.giveUp();
        x.define(0, 2, one, num(6));
        x.start(then(let(5, num(3)), call(0, num(8), NONE)));
        x.step(5);
        due("the first parameter", x.look(0), 8);
        due("no second one ahead of the standard", x.look(1), UNBOUND);
        due("no outer scope", x.look(5), UNBOUND);
        x.step(1);
        due("both ahead of the body", x.look(1), 6);
        due("both ahead of the body", x.look(0), 8);
    }

    private static void looksAsOutcomes() {
        int function = fun(0, num(1)), generator = gen(num(1)), one = num(1);
        x.start(then(let(0, num(-9999)), let(1, num(9999)), let(2, then(function, function)), let(3, then(generator, generator)), let(4, num(0)), one));
        due("none", x.look(0), 49999);
        x.step(19);
        due("ahead of the last one", x.next(), one);
        due("the least", x.look(0), -9999);
        due("the greatest", x.look(1), 9999);
        due("a function", x.look(2), 20001);
        due("a generator", x.look(3), 30001);
        due("0", x.look(4), 0);
        due("none", x.look(5), 49999);
    }

    private static void looksAtNames() {
        for (int name : new int[] {Integer.MIN_VALUE, -1, 8, Integer.MAX_VALUE}) {
            noIndex("none is stepped, the index first", () -> x.look(name));
        }
        noState("none is stepped", () -> x.look(0));
        noState("none is stepped", () -> x.look(7));
        x.start(then(let(0, num(4)), let(7, num(5)), num(1)));
        x.step(6);
        due("the first", x.look(0), 4);
        due("the last", x.look(7), 5);
        for (int name : new int[] {Integer.MIN_VALUE, -1, 8, Integer.MAX_VALUE}) {
            noIndex("name " + name, () -> x.look(name));
        }
    }

    private static void actives() {
        due("none is stepped", x.active(), 0);
        int one = num(1);
        x.define(0, 1, one, NONE);
        int applies = apply(fun(0, one), one), calls = call(0, NONE, NONE), asks = ask(gen(one)), inserts = insert(3);
        active("APPLY", applies, 0, 0, 0, 1);
        active("CALL", calls, 0, 1);
        active("ASK", asks, 0, 0, 1);
        active("INSERT without a hook", inserts, 0, 0);
        x.run(hook(0));
        active("INSERT", inserts, 0, 0, 1);
        x.run(hook(NONE));
        active("behind them", then(applies, then(calls, one)), 0, 0, 0, 0, 1, 0, 0, 1, 0);
        active("one in the other", apply(fun(0, applies), one), 0, 0, 0, 1, 1, 1, 2);
        x.define(1, 2, one, one);
        active("not while a standard is done", call(1, NONE, NONE), 0, 0, 1);
        int rests = then(let(0, gen(then(yielded(one), one))), ask(name(0)), then(one, ask(name(0))));
        active("not while it rests", rests, 0, 0, 0, 0, 0, 0, 1, 1, 1, 0, 0, 0, 0, 1);
        active("not while it is closed", ask(gen(last(yielded(one), one))), 0, 0, 1, 1, 1, 0);
        int spent = then(let(0, gen(one)), ask(name(0)), ask(name(0)), one);
        active("not of a spent one", spent, 0, 0, 0, 0, 0, 0, 1, 0, 0, 0, 0);
        x.start(apply(fun(0, one), one));
        x.step(3);
        due("ahead of the body", x.active(), 1);
        x.giveUp();
        due("given up", x.active(), 0);
        x.start(applies);
        due("behind one given up within a call", x.active(), 0);
        x.giveUp();
        x.run(applies);
        due("behind a run", x.active(), 0);
        x.start(deep(12, one));
        int most = 0;
        for (int turn = 0; turn < 200 && x.next() != NONE; turn++) {
            most = Math.max(most, x.active());
            x.step(1);
        }
        due("at most", most, 12);
        due("at most", x.outcome(), 1);
    }

    /** How many are active ahead of each node that begins. */
    private static void active(String what, int node, int... counts) {
        x.start(node);
        for (int i = 0; i < counts.length; i++) {
            due(what + ", ahead of step " + i, x.active(), counts[i]);
            due(what + ", step " + i, x.step(1), 1);
        }
        due(what + ", as many steps", x.next(), NONE);
    }
}
