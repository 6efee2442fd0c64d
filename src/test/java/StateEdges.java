/** Promises 23 to 31: what can be asked of texts, cursors, options, registers, slots and the hook, also while a run is stepped. */
final class StateEdges extends Edges {
    private static final int[] FAR = {Integer.MIN_VALUE, -9999, -2, -1};

    static void all() {
        edge(23, "Returns the buffer that is current.", StateEdges::currentBuffer);
        edge(24, "Returns how many letters a text has.", StateEdges::lengths);
        edge(25, "`place`: 0 for the first one", StateEdges::letterPlaces);
        edge(25, "Throws `IndexOutOfBoundsException` if there is no such buffer or place", StateEdges::noBufferOrPlace);
        edge(26, "Returns its place; NONE if it is not there.", StateEdges::cursorPlaces);
        edge(26, "Throws `IndexOutOfBoundsException` if there is no such buffer, or cursor is none of these", StateEdges::noBufferOrCursor);
        edge(27, "Returns the active cursor.", StateEdges::activeCursors);
        edge(28, "Returns its value, as an outcome.", StateEdges::optionValues);
        edge(28, "Throws `IndexOutOfBoundsException` if there is no such option", StateEdges::noOption);
        edge(29, "Returns a register, which is 0 at first.", StateEdges::registers);
        edge(29, "Throws `IndexOutOfBoundsException` if there is no such register", StateEdges::noRegister);
        edge(30, "Returns the node; NONE if it has no function.", StateEdges::bodies);
        edge(30, "Throws `IndexOutOfBoundsException` if there is no such slot", StateEdges::noSlot);
        edge(31, "Returns the slot that is the hook; NONE if there is none.", StateEdges::hooks);
    }

    private static void currentBuffer() {
        due("at first", x.buffer(), 0);
        int other = into(1), back = into(0), one = num(1);
        x.start(then(other, then(back, one)));
        x.step(3);
        due("while it is stepped", x.buffer(), 1);
        x.step(3);
        due("while it is stepped", x.buffer(), 0);
        x.giveUp();
        x.run(other);
        due("behind a run", x.buffer(), 1);
        x.run(then(back, fail(1)));
        due("behind an error", x.buffer(), 1);
        x.tried(back);
        due("tried", x.buffer(), 1);
        x.start(then(back, one));
        x.step(3);
        due("while it is stepped", x.buffer(), 0);
        x.giveUp();
        due("given up", x.buffer(), 1);
    }

    private static void lengths() {
        due("none", x.length(0), 0);
        for (int count = 1; count <= 40; count++) {
            x.write(1, 3);
            due("as many as were written", x.length(1), count);
        }
        due("none of the other one", x.length(0), 0);
        x.start(then(insert(1), erase()));
        x.step(3);
        due("while it is stepped", x.length(0), 1);
        x.step(1);
        due("behind it", x.length(0), 0);
        for (int buffer : FAR) {
            noIndex("buffer " + buffer, () -> x.length(buffer));
        }
        noIndex("buffer 2", () -> x.length(2));
        noIndex("buffer", () -> x.length(Integer.MAX_VALUE));
    }

    private static void letterPlaces() {
        write(0, "az");
        write(1, "mbc");
        due("the first", x.letter(0, 0), 0);
        due("the last", x.letter(0, 1), 25);
        due("the first of the other one", x.letter(1, 0), 12);
        due("the last of the other one", x.letter(1, 2), 2);
        x.start(then(insert(7), then(move(1), num(1))));
        x.step(3);
        due("while it is stepped", x.letter(0, 0), 7);
        due("while it is stepped, the last", x.letter(0, 2), 25);
        x.giveUp();
        due("given up", x.letter(0, 0), 0);
        noIndex("given up", () -> x.letter(0, 2));
        fresh();
        for (int place = 0; place < 40; place++) {
            x.write(0, place % 26);
        }
        for (int place = 0; place < 40; place++) {
            due("each", x.letter(0, place), place % 26);
        }
        noIndex("behind 40", () -> x.letter(0, 40));
    }

    private static void noBufferOrPlace() {
        noIndex("none at all", () -> x.letter(0, 0));
        noIndex("none at all", () -> x.letter(1, 0));
        write(0, "ab");
        for (int far : FAR) {
            noIndex("place " + far, () -> x.letter(0, far));
            noIndex("buffer " + far, () -> x.letter(far, 0));
        }
        for (int far : new int[] {2, 3, 40, Integer.MAX_VALUE}) {
            noIndex("place " + far, () -> x.letter(0, far));
            noIndex("buffer " + far, () -> x.letter(far, 0));
        }
        noIndex("of the other one", () -> x.letter(1, 0));
        due("the last", x.letter(0, 1), 1);
        x.run(then(move(2), erase()));
        noIndex("one that was erased", () -> x.letter(0, 1));
        due("the one ahead of it", x.letter(0, 0), 0);
    }

    private static void cursorPlaces() {
        for (int cursor = 0; cursor < 4; cursor++) {
            due("at first", x.cursor(0, cursor), cursor == 0 ? 0 : NONE);
            due("at first", x.cursor(1, cursor), cursor == 0 ? 0 : NONE);
        }
        for (int count = 0; count < 40; count++) {
            x.write(0, 1);
        }
        x.run(then(move(40), another(0), another(39), another(40)));
        cursors("places", 0, 40, 0, 39, 40, 0);
        x.run(erase());
        cursors("two went", 0, 39, 0, NONE, NONE, 0);
        x.start(then(another(7), num(1)));
        x.step(3);
        due("while it is stepped", x.cursor(0, 2), 7);
        x.giveUp();
        due("given up", x.cursor(0, 2), NONE);
    }

    private static void noBufferOrCursor() {
        for (int far : FAR) {
            noIndex("buffer " + far, () -> x.cursor(far, 0));
            noIndex("cursor " + far, () -> x.cursor(0, far));
        }
        for (int far : new int[] {4, 5, Integer.MAX_VALUE}) {
            noIndex("buffer " + far, () -> x.cursor(far, 0));
            noIndex("cursor " + far, () -> x.cursor(1, far));
        }
        noIndex("buffer 2", () -> x.cursor(2, 3));
        due("cursor 3", x.cursor(1, 3), NONE);
    }

    private static void activeCursors() {
        due("at first", x.activeCursor(0), 0);
        due("at first", x.activeCursor(1), 0);
        write(1, "abc");
        int one = num(1);
        x.run(then(into(1), another(2), another(3), another(1)));
        due("CURSOR makes none active", x.activeCursor(1), 0);
        x.start(each(one));
        int[] order = {0, 0, 3, 1, 2};
        for (int step = 0; step < 5; step++) {
            due("while it is stepped, ahead of step " + step, x.activeCursor(1), order[step]);
            due("of the other one", x.activeCursor(0), 0);
            x.step(1);
        }
        due("ended", x.activeCursor(1), 0);
        x.start(each(one));
        x.step(3);
        due("meanwhile", x.activeCursor(1), 1);
        x.giveUp();
        due("given up", x.activeCursor(1), 0);
        for (int buffer : FAR) {
            noIndex("buffer " + buffer, () -> x.activeCursor(buffer));
        }
        noIndex("buffer 2", () -> x.activeCursor(2));
        noIndex("buffer", () -> x.activeCursor(Integer.MAX_VALUE));
    }

    private static void optionValues() {
        int one = num(1);
        x.setOption(1, -9999);
        x.setOption(2, 9999);
        due("the least", x.option(1), -9999);
        due("the greatest", x.option(2), 9999);
        x.start(option(0, fun(0, one), option(3, then(gen(one), gen(one)), one)));
        x.step(2);
        due("not yet", x.option(0), 20000);
        due("not yet", x.option(3), 0);
        x.step(4);
        due("a function", x.option(0), 20000);
        due("a generator", x.option(3), 30001);
        x.step(1);
        due("again", x.option(0), 0);
        due("again", x.option(3), 0);
        due("the others", x.option(1), -9999);
        x.start(option(1, one, one));
        x.step(2);
        due("while it holds", x.option(1), 1);
        x.giveUp();
        due("given up", x.option(1), -9999);
    }

    private static void noOption() {
        for (int option : FAR) {
            noIndex("option " + option, () -> x.option(option));
        }
        noIndex("option 4", () -> x.option(4));
        noIndex("option", () -> x.option(Integer.MAX_VALUE));
        due("option 0", x.option(0), 0);
        due("option 3", x.option(3), 0);
    }

    private static void registers() {
        int[] values = {-9999, 9999, 0, -1};
        for (int register = 0; register < 4; register++) {
            due("at first", x.register(register), 0);
            x.run(stay(register, num(values[register])));
        }
        for (int register = 0; register < 4; register++) {
            due("each its own", x.register(register), values[register]);
        }
        x.start(then(stay(2, num(5)), stay(2, num(6))));
        x.step(3);
        due("while it is stepped", x.register(2), 5);
        x.giveUp();
        due("given up", x.register(2), 5);
        x.run(then(stay(2, num(7)), fail(1)));
        due("behind an error", x.register(2), 7);
        x.tried(stay(2, num(8)));
        x.triedSteps(stay(2, num(9)));
        due("tried", x.register(2), 7);
    }

    private static void noRegister() {
        for (int register : FAR) {
            noIndex("register " + register, () -> x.register(register));
        }
        noIndex("register 4", () -> x.register(4));
        noIndex("register", () -> x.register(Integer.MAX_VALUE));
        due("register 0", x.register(0), 0);
        due("register 3", x.register(3), 0);
    }

    private static void bodies() {
        int zeroth = num(0), first = num(1);
        for (int slot = 0; slot < 6; slot++) {
            due("none", x.body(slot), NONE);
        }
        x.define(0, 0, zeroth, NONE);
        x.define(5, 2, first, zeroth);
        due("the node 0", x.body(0), zeroth);
        due("the body, not the standard", x.body(5), first);
        due("none beside it", x.body(4), NONE);
        due("none beside it", x.body(1), NONE);
        x.start(then(reload(5, zeroth), first));
        x.step(2);
        due("while it is stepped", x.body(5), zeroth);
        x.giveUp();
        due("given up", x.body(5), first);
        x.run(reload(5, zeroth));
        due("reloaded", x.body(5), zeroth);
        x.run(then(reload(5, first), fail(1)));
        due("behind an error", x.body(5), zeroth);
        x.tried(reload(5, first));
        due("tried", x.body(5), zeroth);
    }

    private static void noSlot() {
        for (int slot : FAR) {
            noIndex("slot " + slot, () -> x.body(slot));
        }
        noIndex("slot 6", () -> x.body(6));
        noIndex("slot", () -> x.body(Integer.MAX_VALUE));
        due("slot 0", x.body(0), NONE);
        due("slot 5", x.body(5), NONE);
    }

    private static void hooks() {
        due("none", x.hook(), NONE);
        int first = hook(0), last = hook(5), none = hook(NONE), one = num(1);
        x.run(first);
        due("the slot 0", x.hook(), 0);
        x.run(last);
        due("the slot 5", x.hook(), 5);
        x.start(then(none, one));
        x.step(2);
        due("while it is stepped", x.hook(), NONE);
        x.giveUp();
        due("given up", x.hook(), 5);
        x.run(then(none, fail(1)));
        due("behind an error", x.hook(), 5);
        x.tried(none);
        due("tried", x.hook(), 5);
        x.run(none);
        due("none", x.hook(), NONE);
    }
}
