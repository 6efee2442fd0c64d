import java.util.ArrayList;
import java.util.List;
import java.util.function.Consumer;
import java.util.function.ToIntFunction;

/** "Exceptions": which one decides, and that a call that throws changes nothing; each method, ahead of runs and while one is stepped. */
final class RefusalEdges extends Edges {
    private static final Class<IndexOutOfBoundsException> INDEX = IndexOutOfBoundsException.class;
    private static final Class<IllegalArgumentException> ARGUMENT = IllegalArgumentException.class;
    private static final Class<IllegalStateException> STATE = IllegalStateException.class;
    private static final int LEAST = Integer.MIN_VALUE;
    private static final int GREATEST = Integer.MAX_VALUE;

    static void all() {
        edge(2, "IndexOutOfBoundsException: there is no such node, slot, option, buffer, cursor, place, register or name.", RefusalEdges::noSuchThing);
        edge(5, "IllegalArgumentException: another argument is out of its range.", RefusalEdges::outOfRange);
        edge(12, "IllegalStateException: as the method says.", RefusalEdges::notNow);
        edge(3, "The first line of a method's throws clause that applies decides; a call that throws changes nothing.", RefusalEdges::firstLine);
    }

    /** A scene with something of everything: nodes, slots, texts, a run that has failed. The nodes 0 and 1 are numbers. */
    private static Macroloom scene(boolean stepped) {
        fresh();
        int one = num(1), two = num(2);
        x.define(0, 1, one, NONE);
        x.define(3, 2, two, one);
        x.setOption(1, 7);
        x.setBudget(50);
        write(0, "abc");
        write(1, "xy");
        x.run(then(move(2), another(1), hook(3), stay(2, num(9)), into(1), move(1)));
        x.breakAt(two, true);
        x.run(apply(fun(0, last(fail(4), fail(5))), one));
        if (stepped) {
            x.start(then(let(3, num(6)), insert(4), reload(0, two), two));
            x.step(5);
        }
        return x;
    }

    private static int answer(Macroloom m, ToIntFunction<Macroloom> call) {
        try {
            return call.applyAsInt(m);
        } catch (IndexOutOfBoundsException thrown) {
            return 1000001;
        } catch (IllegalStateException thrown) {
            return 1000003;
        }
    }

    /** All that can be asked, and then what becomes of the run that is stepped, the budget, the breaks and the next node. */
    private static List<Integer> seen(Macroloom m) {
        List<Integer> seen = new ArrayList<>();
        asked(m, seen);
        if (m.next() != NONE) {
            for (int name = 0; name < 8; name++) {
                seen.add(m.look(name));
            }
            // It stops at the break of the node 1, in the hook and at its end.
            for (int turn = 0; turn < 3; turn++) {
                seen.add(m.step(600));
                seen.add(m.next());
            }
            asked(m, seen);
        }
        seen.add(m.setBudget(60));
        for (int node = 0; node < 8; node++) {
            int of = node;
            seen.add(answer(m, each -> each.size(of)));
            seen.add(answer(m, each -> each.breakAt(of, false) ? 1 : 0));
        }
        seen.add(m.node(Macroloom.CALL, 3, NONE, NONE));
        seen.add(m.run(m.node(Macroloom.CALL, 3, NONE, NONE)));
        asked(m, seen);
        return seen;
    }

    private static void asked(Macroloom m, List<Integer> seen) {
        seen.add(m.next());
        seen.add(m.active());
        seen.add(m.outcome());
        seen.add(m.steps());
        seen.add(m.cause());
        for (int place = 0; place <= m.traced(); place++) {
            int at = place;
            seen.add(answer(m, each -> each.traceAt(at)));
        }
        seen.add(m.buffer());
        seen.add(m.hook());
        for (int buffer = 0; buffer < 2; buffer++) {
            seen.add(m.activeCursor(buffer));
            for (int place = 0; place < m.length(buffer); place++) {
                seen.add(m.letter(buffer, place));
            }
            for (int cursor = 0; cursor < 4; cursor++) {
                seen.add(m.cursor(buffer, cursor));
            }
        }
        for (int number = 0; number < 4; number++) {
            seen.add(m.option(number));
            seen.add(m.register(number));
        }
        for (int slot = 0; slot < 6; slot++) {
            seen.add(m.body(slot));
        }
    }

    /** The call is refused so, ahead of runs and while one is stepped, and each time all is as without the call. */
    private static void changesNothing(String what, Class<? extends RuntimeException> want, Consumer<Macroloom> call) {
        changesNothing(what, want, false, call);
        changesNothing(what, want, true, call);
    }

    private static void changesNothing(String what, Class<? extends RuntimeException> want, boolean stepped, Consumer<Macroloom> call) {
        List<Integer> due = seen(scene(stepped));
        Macroloom made = scene(stepped);
        refused(what + (stepped ? ", stepped" : ""), want, () -> call.accept(made));
        due(what + (stepped ? ", stepped" : "") + ", all is the same", seen(made).equals(due), true);
    }

    private static void noSuchThing() {
        for (int far : new int[] {LEAST, -2, 119, 120, GREATEST}) {
            changesNothing("node of no part", INDEX, m -> m.node(Macroloom.SCOPE, far, NONE, NONE));
            changesNothing("define of no slot", INDEX, m -> m.define(far, 0, 0, NONE));
            changesNothing("define of no body", INDEX, m -> m.define(0, 0, far, NONE));
            changesNothing("define of no standard", INDEX, m -> m.define(0, 2, 0, far));
            changesNothing("size of no node", INDEX, m -> m.size(far));
            changesNothing("setOption of none", INDEX, m -> m.setOption(far, 1));
            changesNothing("write to none", INDEX, m -> m.write(far, 1));
            changesNothing("run of none", INDEX, m -> m.run(far));
            changesNothing("tried of none", INDEX, m -> m.tried(far));
            changesNothing("triedSteps of none", INDEX, m -> m.triedSteps(far));
            changesNothing("start of none", INDEX, m -> m.start(far));
            changesNothing("breakAt of none", INDEX, m -> m.breakAt(far, true));
            changesNothing("look of none", INDEX, m -> m.look(far));
            changesNothing("traceAt of none", INDEX, m -> m.traceAt(far));
            changesNothing("length of none", INDEX, m -> m.length(far));
            changesNothing("letter of no buffer", INDEX, m -> m.letter(far, 0));
            changesNothing("letter of no place", INDEX, m -> m.letter(0, far));
            changesNothing("cursor of no buffer", INDEX, m -> m.cursor(far, 0));
            changesNothing("cursor of none", INDEX, m -> m.cursor(0, far));
            changesNothing("activeCursor of none", INDEX, m -> m.activeCursor(far));
            changesNothing("option of none", INDEX, m -> m.option(far));
            changesNothing("register of none", INDEX, m -> m.register(far));
            changesNothing("body of none", INDEX, m -> m.body(far));
        }
        changesNothing("setOption 4", INDEX, m -> m.setOption(4, 1));
        changesNothing("define 6", INDEX, m -> m.define(6, 0, 0, NONE));
        changesNothing("write 2", INDEX, m -> m.write(2, 1));
        changesNothing("look 8", INDEX, m -> m.look(8));
        changesNothing("traceAt 2", INDEX, m -> m.traceAt(2));
    }

    private static void outOfRange() {
        changesNothing("NUMBER 10000", ARGUMENT, m -> m.node(Macroloom.NUMBER, 10000, NONE, NONE));
        changesNothing("NAME 8", ARGUMENT, m -> m.node(Macroloom.NAME, 8, NONE, NONE));
        changesNothing("kind 40", ARGUMENT, m -> m.node(40, NONE, NONE, NONE));
        changesNothing("kind -1", ARGUMENT, m -> m.node(-1, NONE, NONE, NONE));
        changesNothing("CALL with c alone", ARGUMENT, m -> m.node(Macroloom.CALL, 0, NONE, 0));
        changesNothing("define with 3 parameters", ARGUMENT, m -> m.define(0, 3, 1, NONE));
        changesNothing("define with -1 parameters", ARGUMENT, m -> m.define(0, -1, 1, NONE));
        changesNothing("define with a standard for 1", ARGUMENT, m -> m.define(0, 1, 1, 0));
        changesNothing("setOption 10000", ARGUMENT, m -> m.setOption(1, 10000));
        changesNothing("setOption -10000", ARGUMENT, m -> m.setOption(1, -10000));
        changesNothing("setBudget 0", ARGUMENT, m -> m.setBudget(0));
        changesNothing("setBudget 601", ARGUMENT, m -> m.setBudget(601));
        changesNothing("write -1", ARGUMENT, m -> m.write(0, -1));
        changesNothing("write 26", ARGUMENT, m -> m.write(0, 26));
        changesNothing("step 0", ARGUMENT, m -> m.step(0));
        changesNothing("step 601", ARGUMENT, m -> m.step(601));
        changesNothing("step -1", ARGUMENT, m -> m.step(-1));
    }

    private static void notNow() {
        changesNothing("define", STATE, true, m -> m.define(0, 0, 1, NONE));
        changesNothing("define of a new one", STATE, true, m -> m.define(5, 2, 1, 0));
        changesNothing("setOption", STATE, true, m -> m.setOption(1, 3));
        changesNothing("write", STATE, true, m -> m.write(0, 3));
        changesNothing("run", STATE, true, m -> m.run(0));
        changesNothing("tried", STATE, true, m -> m.tried(0));
        changesNothing("triedSteps", STATE, true, m -> m.triedSteps(0));
        changesNothing("start", STATE, true, m -> m.start(0));
        changesNothing("step", STATE, false, m -> m.step(1));
        changesNothing("step", STATE, false, m -> m.step(600));
        changesNothing("giveUp", STATE, false, m -> m.giveUp());
        changesNothing("look", STATE, false, m -> m.look(0));
        for (int turn = 0; turn < 2; turn++) {
            scene(turn == 1);
            int most = sized(149), more = scope(most);
            int count = more + 1;
            noState("a size of 151", () -> scope(more));
            noState("a size of 299", () -> sum(most, most));
            due("none was made", num(1), count);
            for (int made = count + 1; made < 120; made++) {
                num(1);
            }
            noState("the 121st", () -> num(1));
            noIndex("none was made", () -> x.size(120));
        }
        scene(false);
        for (int count = 3; count < 40; count++) {
            x.write(0, 1);
        }
        noState("the 41st letter", () -> x.write(0, 1));
        due("none was written", x.length(0), 40);
        due("the other text", x.write(1, 1), 3);
    }

    private static void firstLine() {
        changesNothing("node: a part ahead of a name", INDEX, m -> m.node(Macroloom.LET, 8, 119, NONE));
        changesNothing("node: a part ahead of c", INDEX, m -> m.node(Macroloom.SUM, 0, 119, 0));
        changesNothing("define: a slot ahead of parameters", INDEX, m -> m.define(6, 3, 0, NONE));
        changesNothing("define: a body ahead of parameters", INDEX, m -> m.define(0, 3, 119, NONE));
        changesNothing("define: a standard ahead of parameters", INDEX, m -> m.define(0, 1, 0, 119));
        changesNothing("define: a standard for 1 that is no node", INDEX, m -> m.define(0, 1, 0, -2));
        changesNothing("setOption: the option ahead of the value", INDEX, m -> m.setOption(4, 10000));
        changesNothing("write: the buffer ahead of the letter", INDEX, m -> m.write(2, 26));
        changesNothing("look: the name ahead of all", INDEX, m -> m.look(-1));
        changesNothing("define: parameters ahead of a stepped run", ARGUMENT, true, m -> m.define(0, 3, 0, NONE));
        changesNothing("setOption: the value ahead of a stepped run", ARGUMENT, true, m -> m.setOption(0, -10000));
        changesNothing("write: the letter ahead of a stepped run", ARGUMENT, true, m -> m.write(0, 26));
        changesNothing("step: steps ahead of none stepped", ARGUMENT, false, m -> m.step(0));
        scene(false);
        for (int count = 3; count < 40; count++) {
            x.write(0, 1);
        }
        noArgument("write: the letter ahead of a full text", () -> x.write(0, -1));
        noIndex("write: the buffer ahead of a full text", () -> x.write(-1, -1));
    }
}
