/** Promises 1 to 7: what a new object has, nodes, slots, options, the budget, letters that are written. */
final class ProgramEdges extends Edges {
    /** Of each kind, what a, b and c are: p a node, o a node or NONE, v a number, n a name, q one of four, s a slot, h a slot or NONE, . nothing. */
    private static final String[] SHAPES = {
        "v..", "n..", "np.", "np.", "pp.", "pp.", "pp.", "pp.", "pp.", "pp.", "ppp", "pp.", "p..", "qp.", "qp.", "q..", "np.", "pp.", "soo", "p..",
        "npp", "pp.", "p..", "p..", "p..", "p..", "qpp", "q..", "qp.", "p..", "...", "p..", "...", "...", "...", "p..", "p..", "p..", "sp.", "h.."};
    private static final int LEAST = Integer.MIN_VALUE;
    private static final int GREATEST = Integer.MAX_VALUE;
    private static final int[] GIVEN = {LEAST, -10000, -9999, -9998, -3, -2, -1, 0, 1, 2, 3, 4, 5, 6, 7, 8, 40, 119, 120, 9998, 9999, 10000, GREATEST};

    static void all() {
        edge(1, "No nodes and slots, empty texts.", ProgramEdges::nothingYet);
        edge(2, "Nodes are numbered from 0 as they are made; there are at most 120.", ProgramEdges::atMost120);
        edge(2, "A node has a kind, and a, b and c, which are numbers, or nodes made earlier, its parts; NONE where nothing is told.", ProgramEdges::eachArgument);
        edge(2, "a node or NONE for CALL, NONE if b is", ProgramEdges::argumentsOfCall);
        edge(2, "`kind`: NUMBER to HOOK", ProgramEdges::kinds);
        edge(2, "A node can be a part of several others.", ProgramEdges::sharedParts);
        edge(2, "The size of a node is 1 and the sizes of its parts, together; it is at most 150.", ProgramEdges::atMost150);
        edge(2, "or its size would be above 150 (the part of RELOAD does not count)", ProgramEdges::sizeOfReload);
        edge(2, "Throws `IndexOutOfBoundsException` if a, b or c has to be a node, and there is no such node", ProgramEdges::noSuchPartFirst);
        edge(2, "Throws `IllegalArgumentException` if kind, or a, b or c otherwise, is out of its range", ProgramEdges::otherRangesSecond);
        edge(2, "Throws `IllegalStateException` if there are 120", ProgramEdges::tooManyLast);
        edge(3, "`slot`: 0 to 5", ProgramEdges::slots);
        edge(3, "`parameters`: 0 to 2", ProgramEdges::parameters);
        edge(3, "Returns the body that it had before; NONE if it had no function.", ProgramEdges::bodyBefore);
        edge(3, "Throws `IndexOutOfBoundsException` if there is no such slot or node", ProgramEdges::noSlotOrNode);
        edge(3, "Throws `IllegalArgumentException` if parameters is out of range, or standard is not NONE and parameters is not 2", ProgramEdges::standardForTwo);
        edge(3, "Throws `IllegalStateException` if a run is stepped", ProgramEdges::notWhileStepped);
        edge(4, "Throws `IndexOutOfBoundsException` if there is no such node", ProgramEdges::sizes);
        edge(4, "Returns the size.", ProgramEdges::sizesOfKinds);
        edge(5, "Sets an option, which is 0 at first.", ProgramEdges::options);
        edge(5, "`value`: -9999 to 9999", ProgramEdges::optionValues);
        edge(6, "`steps`: 1 to 600", ProgramEdges::budgets);
        edge(6, "Sets the budget of runs that begin from now on.", ProgramEdges::budgetFromNowOn);
        edge(7, "Writes a letter at the end of a text; cursors stay.", ProgramEdges::written);
        edge(7, "`letter`: 0 to 25", ProgramEdges::lettersWritten);
        edge(7, "Throws `IllegalStateException` if it has 40, or a run is stepped", ProgramEdges::fullText);
    }

    private static void nothingYet() {
        for (int node : new int[] {LEAST, -1, 0, 1, 119, GREATEST}) {
            noIndex("size of " + node, () -> x.size(node));
            noIndex("run of " + node, () -> x.run(node));
        }
        for (int slot = 0; slot < 6; slot++) {
            due("body of " + slot, x.body(slot), NONE);
        }
        for (int buffer = 0; buffer < 2; buffer++) {
            int of = buffer;
            due("length", x.length(buffer), 0);
            noIndex("letter 0", () -> x.letter(of, 0));
        }
        due("the first node", num(5), 0);
        due("it is there", x.size(0), 1);
        noIndex("the second is not", () -> x.size(1));
        for (int slot = 0; slot < 6; slot++) {
            runs("a call of " + slot, call(slot, NONE, NONE), UNBOUND);
        }
    }

    private static void atMost120() {
        due("the first", num(9), 0);
        noArgument("one that is refused", () -> num(10000));
        noIndex("another one", () -> scope(1));
        for (int number = 1; number < 119; number++) {
            due("as they are made", num(number), number);
        }
        noIndex("the last one is not there yet", () -> x.size(119));
        due("the 120th", scope(118), 119);
        due("it is there", x.size(119), 2);
        noState("the 121st", () -> num(0));
        noState("the 121st of another kind", () -> here());
        noIndex("it is not there", () -> x.size(120));
        runs("the first", 0, 9);
        runs("the last", 119, 118);
    }

    private static Class<? extends RuntimeException> refusal(char shape, int given, int nodes) {
        switch (shape) {
            case 'p': return given >= 0 && given < nodes ? null : IndexOutOfBoundsException.class;
            case 'o': return given >= -1 && given < nodes ? null : IndexOutOfBoundsException.class;
            case 'v': return given >= -9999 && given <= 9999 ? null : IllegalArgumentException.class;
            case 'n': return given >= 0 && given <= 7 ? null : IllegalArgumentException.class;
            case 'q': return given >= 0 && given <= 3 ? null : IllegalArgumentException.class;
            case 's': return given >= 0 && given <= 5 ? null : IllegalArgumentException.class;
            case 'h': return given >= -1 && given <= 5 ? null : IllegalArgumentException.class;
            default: return given == -1 ? null : IllegalArgumentException.class;
        }
    }

    private static void eachArgument() {
        for (int kind = 0; kind < 40; kind++) {
            for (int which = 0; which < 3; which++) {
                for (int given : GIVEN) {
                    fresh();
                    num(3);
                    num(4);
                    char shape = SHAPES[kind].charAt(which);
                    int[] all = usual(kind);
                    all[which] = given;
                    made("kind " + kind + ", " + "abc".charAt(which) + " " + given, kind, all, refusal(shape, given, 2));
                }
            }
        }
    }

    /** What a, b and c may be; CALL has both arguments, so that each can be looked at by itself. */
    private static int[] usual(int kind) {
        int[] all = new int[3];
        for (int which = 0; which < 3; which++) {
            all[which] = SHAPES[kind].charAt(which) == '.' ? -1 : 0;
        }
        return all;
    }

    /** There are two nodes; a third one comes about, or none does. A CALL without b may not have the c that is usual. */
    private static void made(String what, int kind, int[] all, Class<? extends RuntimeException> refusal) {
        boolean onlySecond = kind == Macroloom.CALL && all[1] == NONE && all[2] != NONE;
        Class<? extends RuntimeException> want = onlySecond ? IllegalArgumentException.class : refusal;
        if (want != null) {
            refused(what, want, () -> x.node(kind, all[0], all[1], all[2]));
            noIndex(what + ", none was made", () -> x.size(2));
            due(what + ", the next one", num(1), 2);
        } else {
            due(what, x.node(kind, all[0], all[1], all[2]), 2);
            due(what + ", the next one", num(1), 3);
        }
    }

    private static void argumentsOfCall() {
        num(3);
        num(4);
        due("none", call(0, NONE, NONE), 2);
        due("b", call(0, 0, NONE), 3);
        due("b and c", call(0, 0, 0), 4);
        due("the last node", call(0, 4, 4), 5);
        for (int alone : new int[] {LEAST, -10000, -2, 0, 1, 5, 6, 119, 120, 9999, GREATEST}) {
            noArgument("c alone, " + alone, () -> call(0, NONE, alone));
            noArgument("c alone, of no slot, " + alone, () -> call(6, NONE, alone));
        }
        for (int missing : new int[] {LEAST, -2, 6, 119, GREATEST}) {
            noIndex("no such b, " + missing, () -> call(0, missing, NONE));
            noIndex("no such b, with c, " + missing, () -> call(0, missing, 0));
            noIndex("no such c, " + missing, () -> call(0, 0, missing));
            noIndex("no such b, of no slot, " + missing, () -> call(-1, missing, NONE));
        }
        due("sizes", x.size(2), 1);
        due("sizes", x.size(3), 2);
        due("sizes", x.size(4), 3);
        due("the next one", num(1), 6);
    }

    private static void kinds() {
        num(3);
        for (int kind : new int[] {LEAST, -2, -1, 40, 41, GREATEST}) {
            noArgument("kind " + kind, () -> x.node(kind, 0, 0, 0));
            noArgument("kind " + kind, () -> x.node(kind, 0, NONE, NONE));
            noArgument("kind " + kind, () -> x.node(kind, NONE, NONE, NONE));
            noArgument("kind " + kind, () -> x.node(kind, 99, 99, 99));
        }
        due("the first kind", x.node(0, 5, NONE, NONE), 1);
        due("the last kind", x.node(39, 5, NONE, NONE), 2);
    }

    private static void sharedParts() {
        int stays = stay(1, num(4));
        int twice = sum(stays, stays);
        int more = sum(twice, stays);
        due("size", x.size(twice), 5);
        due("size", x.size(more), 8);
        costs("each time anew", more, 12, 8);
        int insert = insert(2);
        costs("in several nodes", then(insert, scope(insert), insert), 2, 9);
        text("each time", 0, "ccc");
    }

    private static void atMost150() {
        due("1", x.size(num(5)), 1);
        for (int size = 2; size <= 150; size += 37) {
            due("sized", x.size(sized(size)), size);
        }
        for (int kind = 0; kind < 40; kind++) {
            String shape = SHAPES[kind];
            for (int which = 0; which < 3; which++) {
                if (kind != Macroloom.RELOAD && (shape.charAt(which) == 'p' || shape.charAt(which) == 'o')) {
                    sizeAtEdge(kind, which);
                }
            }
        }
        fresh();
        int most = sized(150);
        costs("the greatest can be run", most, 0, 150);
        fresh();
        int large = sized(149);
        noState("three parts", () -> iff(0, large, 0));
        noState("large ones", () -> sum(large, large));
        due("CALL of one", x.size(call(0, large, NONE)), 150);
        noState("CALL of two", () -> call(0, large, 0));
    }

    private static void sizeAtEdge(int kind, int which) {
        fresh();
        num(0);
        int others = 0;
        for (int other = 0; other < 3; other++) {
            others += other != which && "po".indexOf(SHAPES[kind].charAt(other)) >= 0 ? 1 : 0;
        }
        int fits = sized(149 - others);
        int beyond = scope(fits);
        int[] all = usual(kind);
        all[which] = beyond;
        noState("151 of kind " + kind + " by " + which, () -> x.node(kind, all[0], all[1], all[2]));
        all[which] = fits;
        int node = x.node(kind, all[0], all[1], all[2]);
        due("150 of kind " + kind + ", none was made ahead", node, beyond + 1);
        due("150 of kind " + kind + " by " + which, x.size(node), 150);
        noState("of that nothing is a part", () -> scope(node));
    }

    private static void sizeOfReload() {
        int most = sized(150);
        int reload = reload(0, most);
        due("a part of 150", x.size(reload), 1);
        due("RELOAD as a part", x.size(scope(reload)), 2);
        noState("SCOPE of it", () -> scope(most));
        noState("GENERATOR of it", () -> gen(most));
        noState("FUNCTION of it", () -> fun(0, most));
        int large = sized(148);
        due("150 with a RELOAD", x.size(sum(large, reload)), 150);
        int larger = scope(large);
        noState("151 with a RELOAD", () -> sum(larger, reload));
    }

    private static void noSuchPartFirst() {
        int most = sized(150);
        int count = most + 1;
        noIndex("ahead of a name", () -> let(8, count));
        noIndex("ahead of a label", () -> loop(4, NONE));
        noIndex("ahead of a slot", () -> reload(6, count));
        noIndex("ahead of c", () -> x.node(Macroloom.LET, 0, count, 0));
        noIndex("ahead of b and c", () -> x.node(Macroloom.SCOPE, count, 0, 0));
        noIndex("ahead of the size", () -> sum(most, count));
        noIndex("ahead of the size", () -> sum(NONE, most));
        noIndex("ahead of the size", () -> iff(most, most, count));
        for (int made = count; made < 120; made++) {
            num(1);
        }
        noIndex("ahead of how many", () -> scope(120));
        noIndex("ahead of how many", () -> let(0, NONE));
        noIndex("ahead of how many", () -> call(0, 0, 120));
    }

    private static void otherRangesSecond() {
        int most = sized(150);
        noArgument("ahead of the size", () -> let(8, most));
        noArgument("ahead of the size", () -> x.node(Macroloom.SCOPE, most, 0, NONE));
        noArgument("ahead of the size", () -> x.node(Macroloom.SUM, most, most, 0));
        noArgument("ahead of the size", () -> stay(4, most));
        noArgument("c alone, ahead of the size", () -> call(0, NONE, most));
        noState("the size", () -> let(7, most));
        for (int made = most + 1; made < 120; made++) {
            num(1);
        }
        noArgument("ahead of how many", () -> num(10000));
        noArgument("ahead of how many", () -> num(-10000));
        noArgument("ahead of how many", () -> name(8));
        noArgument("ahead of how many", () -> x.node(40, 0, 0, 0));
        noArgument("ahead of how many", () -> x.node(Macroloom.ERASE, 0, NONE, NONE));
        noArgument("ahead of how many", () -> call(0, NONE, 0));
    }

    private static void tooManyLast() {
        for (int made = 0; made < 119; made++) {
            num(made);
        }
        due("there are 119", hook(NONE), 119);
        noState("there are 120", () -> hook(NONE));
        noState("there are 120", () -> num(-9999));
        noState("there are 120", () -> call(0, NONE, NONE));
        noState("there are 120", () -> iff(0, 1, 119));
        runs("the last one", 119, 0);
        x.start(118);
        noState("also while a run is stepped", () -> num(0));
        due("it goes on", x.step(1), 1);
        due("outcome", x.outcome(), 118);
    }

    private static void slots() {
        for (int slot = 0; slot < 6; slot++) {
            due("slot " + slot, x.define(slot, 0, num(slot), NONE), NONE);
        }
        for (int slot = 0; slot < 6; slot++) {
            due("each its own, " + slot, x.body(slot), slot);
            runs("each its own, " + slot, call(slot, NONE, NONE), slot);
        }
        for (int slot : new int[] {LEAST, -1, 6, 7, GREATEST}) {
            noIndex("slot " + slot, () -> x.define(slot, 0, 0, NONE));
        }
        due("body of 5", x.body(5), 5);
        due("body of 0", x.body(0), 0);
    }

    private static void parameters() {
        int sum = sum(name(0), name(1));
        int first = name(0);
        x.define(0, 0, first, NONE);
        x.define(1, 1, first, NONE);
        x.define(2, 1, sum, NONE);
        x.define(3, 2, sum, NONE);
        runs("0 of 0", call(0, NONE, NONE), UNBOUND);
        runs("0 of 1", call(1, NONE, NONE), 0);
        runs("1 of 1, the second one", call(2, num(4), NONE), UNBOUND);
        runs("0 of 2", call(3, NONE, NONE), 0);
        for (int parameters : new int[] {LEAST, -2, -1, 3, 4, GREATEST}) {
            noArgument("parameters " + parameters, () -> x.define(3, parameters, first, NONE));
        }
        due("unchanged", x.body(3), sum);
        runs("unchanged", call(3, num(4), num(5)), 9);
        x.define(3, 1, sum, NONE);
        runs("fewer from then on", call(3, num(4), num(5)), TYPE);
    }

    private static void bodyBefore() {
        int zeroth = num(0), first = num(1), second = num(2);
        due("no function", x.define(0, 0, first, NONE), NONE);
        due("of another slot", x.define(1, 2, first, second), NONE);
        due("a function", x.define(0, 1, zeroth, NONE), first);
        due("the node 0", x.define(0, 2, second, first), zeroth);
        x.run(reload(0, first));
        due("a body that came by RELOAD", x.define(0, 0, zeroth, NONE), first);
        due("the same again", x.define(0, 0, zeroth, NONE), zeroth);
        noArgument("one that is refused", () -> x.define(1, 1, zeroth, zeroth));
        due("it changed nothing", x.define(1, 0, second, NONE), first);
        x.define(2, 2, name(1), second);
        x.define(2, 2, name(1), NONE);
        runs("the standard is gone with it", call(2, NONE, NONE), 0);
    }

    private static void noSlotOrNode() {
        num(1);
        num(2);
        due("the last node as body", x.define(0, 0, 1, NONE), NONE);
        due("the last node as standard", x.define(0, 2, 0, 1), 1);
        for (int missing : new int[] {LEAST, -2, 2, 119, 120, GREATEST}) {
            noIndex("body " + missing, () -> x.define(0, 0, missing, NONE));
            noIndex("standard " + missing, () -> x.define(0, 2, 0, missing));
            noIndex("standard " + missing + ", ahead of parameters", () -> x.define(0, 1, 0, missing));
            noIndex("body " + missing + ", ahead of parameters", () -> x.define(0, 3, missing, 0));
        }
        noIndex("body NONE", () -> x.define(0, 0, NONE, NONE));
        noIndex("slot ahead of parameters", () -> x.define(6, 3, 0, NONE));
        noIndex("slot ahead of the standard", () -> x.define(-1, 0, 0, 0));
        due("unchanged", x.body(0), 0);
    }

    private static void standardForTwo() {
        int first = num(1), second = name(1);
        noArgument("0 parameters", () -> x.define(0, 0, first, first));
        noArgument("1 parameter", () -> x.define(0, 1, first, first));
        noArgument("-1 parameters", () -> x.define(0, -1, first, first));
        noArgument("3 parameters", () -> x.define(0, 3, first, first));
        due("none was given", x.body(0), NONE);
        due("2 parameters", x.define(0, 2, second, first), NONE);
        due("2 parameters without one", x.define(1, 2, second, NONE), NONE);
        due("1 parameter without one", x.define(2, 1, first, NONE), NONE);
        due("0 parameters without one", x.define(3, 0, first, NONE), NONE);
        runs("with it", call(0, NONE, NONE), 1);
        runs("without it", call(1, NONE, NONE), 0);
    }

    private static void notWhileStepped() {
        int first = num(1), second = num(2);
        x.define(0, 0, first, NONE);
        x.start(sum(first, second));
        noState("ahead of the first node", () -> x.define(0, 0, second, NONE));
        noIndex("no slot, first", () -> x.define(6, 0, second, NONE));
        noArgument("parameters, second", () -> x.define(0, 3, second, NONE));
        noArgument("a standard, second", () -> x.define(0, 1, second, second));
        x.step(2);
        noState("ahead of the last node", () -> x.define(1, 0, second, NONE));
        due("unchanged", x.body(0), first);
        due("unchanged", x.body(1), NONE);
        x.step(1);
        due("it has ended", x.define(0, 0, second, NONE), first);
        x.start(first);
        noState("another one", () -> x.define(0, 0, first, NONE));
        x.giveUp();
        due("it was given up", x.define(0, 0, first, NONE), second);
    }

    private static void sizes() {
        for (int node : new int[] {LEAST, -2, -1, 0, 1, GREATEST}) {
            noIndex("of none, " + node, () -> x.size(node));
        }
        num(5);
        due("the first", x.size(0), 1);
        noIndex("the second", () -> x.size(1));
        num(5);
        due("the last", x.size(1), 1);
        noIndex("-1", () -> x.size(-1));
        noIndex("behind the last", () -> x.size(2));
        x.start(0);
        due("while a run is stepped", x.size(1), 1);
    }

    private static void sizesOfKinds() {
        for (int kind = 0; kind < 40; kind++) {
            fresh();
            int part = sum(num(1), num(2)), parts = 0;
            int[] all = usual(kind);
            for (int which = 0; which < 3; which++) {
                boolean isPart = "po".indexOf(SHAPES[kind].charAt(which)) >= 0;
                parts += isPart && kind != Macroloom.RELOAD ? 1 : 0;
                all[which] = isPart ? part : all[which];
            }
            due("kind " + kind, x.size(x.node(kind, all[0], all[1], all[2])), 1 + 3 * parts);
        }
        fresh();
        int part = sum(num(1), num(2));
        due("CALL of none", x.size(call(0, NONE, NONE)), 1);
        due("CALL of one", x.size(call(0, part, NONE)), 4);
        due("CALL of two", x.size(call(0, part, part)), 7);
        x.define(0, 0, sized(100), NONE);
        due("a slot's body does not count", x.size(call(0, NONE, NONE)), 1);
    }

    private static void options() {
        for (int option = 0; option < 4; option++) {
            due("at first, " + option, x.option(option), 0);
            due("it was 0", x.setOption(option, option + 1), 0);
        }
        for (int option = 0; option < 4; option++) {
            due("each its own, " + option, x.option(option), option + 1);
            due("what it was", x.setOption(option, 0), option + 1);
        }
        for (int option : new int[] {LEAST, -1, 4, GREATEST}) {
            noIndex("option " + option, () -> x.setOption(option, 1));
            noIndex("option " + option + ", the index first", () -> x.setOption(option, 10000));
        }
        x.start(num(1));
        noState("stepped", () -> x.setOption(0, 1));
        noIndex("stepped, the index first", () -> x.setOption(4, 1));
        noArgument("stepped, the argument second", () -> x.setOption(3, -10000));
        due("unchanged", x.option(0), 0);
        x.step(1);
        due("it has ended", x.setOption(0, 1), 0);
    }

    private static void optionValues() {
        int get = get(2);
        int[] values = {-9999, 9999, -9998, 9998, -1, 1, 0};
        int before = 0;
        for (int value : values) {
            due("set to " + value, x.setOption(2, value), before);
            due("option", x.option(2), value);
            runs("GET", get, value);
            before = value;
        }
        for (int value : new int[] {LEAST, -10000, 10000, 20000, 30000, GREATEST}) {
            noArgument("value " + value, () -> x.setOption(2, value));
        }
        due("unchanged", x.option(2), 0);
    }

    private static void budgets() {
        int before = 300;
        for (int steps : new int[] {1, 600, 2, 599, 300, 1}) {
            due("set to " + steps, x.setBudget(steps), before);
            before = steps;
        }
        for (int steps : new int[] {LEAST, -1, 0, 601, 602, GREATEST}) {
            noArgument("steps " + steps, () -> x.setBudget(steps));
        }
        due("unchanged", x.setBudget(600), 1);
        int forever = loop(0, num(1));
        costs("600", forever, BUDGET, 600);
        x.setBudget(1);
        costs("1", forever, BUDGET, 1);
        costs("1 is enough for one", num(7), 7, 1);
    }

    private static void budgetFromNowOn() {
        int forever = loop(0, num(1));
        x.setBudget(5);
        x.start(forever);
        due("while a run is stepped", x.setBudget(3), 5);
        due("that has its own", x.step(600), 5);
        due("that has its own", x.steps(), 5);
        x.start(forever);
        x.setBudget(600);
        due("less than it is now", x.step(600), 3);
        due("the one ahead stays as it was told", x.steps(), 3);
        due("tried", x.triedSteps(forever), 600);
        x.start(forever);
        x.setBudget(2);
        x.giveUp();
        costs("giving up takes nothing back", forever, BUDGET, 2);
    }

    private static void written() {
        write(0, "abc");
        x.run(then(move(3), another(0), another(1)));
        cursors("ahead", 0, 3, 0, 1, NONE, 0);
        due("behind the cursor", x.write(0, 25), 4);
        text("at the end", 0, "abcz");
        cursors("they stay, the one at the end too", 0, 3, 0, 1, NONE, 0);
        due("the other text", x.write(1, 0), 1);
        text("the other text", 1, "a");
        text("the first one", 0, "abcz");
        cursors("the other text", 1, 0, NONE, NONE, NONE, 0);
        runs("the letter behind the active one", behind(), 25);
        due("buffer", x.buffer(), 0);
        for (int buffer : new int[] {LEAST, -1, 2, GREATEST}) {
            noIndex("buffer " + buffer, () -> x.write(buffer, 0));
            noIndex("buffer " + buffer + ", the index first", () -> x.write(buffer, 26));
        }
        x.define(0, 1, stay(0, num(9)), NONE);
        x.run(hook(0));
        due("no hook runs", x.write(0, 1), 5);
        due("no hook runs", x.register(0), 0);
    }

    private static void lettersWritten() {
        due("0", x.write(0, 0), 1);
        due("25", x.write(0, 25), 2);
        for (int letter : new int[] {LEAST, -2, -1, 26, 27, GREATEST}) {
            noArgument("letter " + letter, () -> x.write(0, letter));
        }
        text("unchanged", 0, "az");
        due("the next one", x.write(0, 1), 3);
    }

    private static void fullText() {
        for (int buffer = 0; buffer < 2; buffer++) {
            int of = buffer;
            for (int count = 1; count <= 40; count++) {
                due("up to 40", x.write(buffer, count % 26), count);
            }
            noState("the 41st", () -> x.write(of, 0));
            noArgument("the 41st, the argument first", () -> x.write(of, 26));
            due("40", x.length(buffer), 40);
            due("the last one", x.letter(buffer, 39), 14);
        }
        x.run(then(move(40), erase()));
        due("39", x.write(0, 7), 40);
        noState("40 again", () -> x.write(0, 7));
        fresh();
        num(1);
        x.start(0);
        noState("a run is stepped", () -> x.write(0, 0));
        noIndex("stepped, the index first", () -> x.write(2, 0));
        noArgument("stepped, the argument second", () -> x.write(0, 26));
        due("unchanged", x.length(0), 0);
        x.giveUp();
        due("it was given up", x.write(0, 0), 1);
    }
}
