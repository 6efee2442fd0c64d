/** "The text": letters, cursors, buffers, the hook as it is called by INSERT. Promise 8 and, as each is tried, 9 and 10. */
final class TextEdges extends Edges {
    static void all() {
        edge(23, "There are the buffers 0 and 1; the buffer 0 is current at first.", TextEdges::buffersAtFirst);
        edge(26, "At first there is the cursor 0, at the place 0, and it is active.", TextEdges::cursorAtFirst);
        edge(8, "A buffer has a text of at most 40 letters, 0 to 25, and up to 4 cursors, numbered 0 to 3, each at a place: how many letters are ahead of it.", TextEdges::mostOfAll);
        edge(8, "All of this is meant of the buffer that is current.", TextEdges::ofTheCurrentBuffer);
        edge(8, "INSERT a: the value has to be 0 to 25, and there have to be fewer than 40 letters, otherwise RANGE.", TextEdges::inserts);
        edge(8, "The letter comes at the place of the active cursor; this is behind it then, and each other cursor that was farther on is 1 place farther on.", TextEdges::cursorsByInsert);
        edge(8, "If there is a hook, and the hook is not being called just now, then its slot is called with the letter as its one argument", TextEdges::hookIsCalled);
        edge(8, "what the call ends with, if it is a value, does not matter; if it is an error, or there can be no call, INSERT ends with the error, and the letter stands. Its value is the letter.", TextEdges::hookEnds);
        edge(8, "ERASE: the letter ahead of the active cursor goes; RANGE, if there is none.", TextEdges::erases);
        edge(8, "Each cursor that was behind it is 1 place less far; then each other cursor that is at the place of the active one is there no more. Its value is the letter.", TextEdges::cursorsByErase);
        edge(8, "MOVE a: the active cursor gets the place that the value tells, 0 up to how many letters there are, otherwise RANGE; that is its value.", TextEdges::moves);
        edge(8, "HERE: the place of the active cursor.", TextEdges::places);
        edge(8, "LETTER: the letter behind the active cursor; -1, if there is none.", TextEdges::lettersBehind);
        edge(8, "LENGTH: how many letters there are.", TextEdges::lengths);
        edge(8, "CURSOR a: another cursor, with the lowest number that is free, at the place that the value tells, as at MOVE; RANGE also if there are 4. Its value is its number.", TextEdges::moreCursors);
        edge(8, "EACH a: the cursors of the buffer that are there when it begins, by rising places, those at the same place by rising numbers", TextEdges::eachInOrder);
        edge(8, "for each one that is there still (told by its number, also if another one got it meanwhile), it is the active one of this buffer, and a is done.", TextEdges::eachThereStill);
        edge(8, "Its value is for how many a was done.", TextEdges::eachCounts);
        edge(27, "However it ends, the cursor that was active when it began is active again, or, if that is there no more, the one with the lowest number.", TextEdges::eachEnds);
        edge(8, "BUFFER a: the buffer that is current becomes the one that the value of a tells; RANGE, if that is neither 0 nor 1.", TextEdges::buffers);
        edge(8, "Where a value has to be a number by INSERT, MOVE, CURSOR or BUFFER, and is none, this is TYPE.", TextEdges::noNumber);
    }

    private static void fill(int buffer, int count) {
        for (int i = x.length(buffer); i < count; i++) {
            x.write(buffer, i % 26);
        }
    }

    private static void buffersAtFirst() {
        due("current", x.buffer(), 0);
        runs("INSERT", insert(3), 3);
        due("of the buffer 0", x.length(0), 1);
        due("not of 1", x.length(1), 0);
        due("write to 0", x.write(0, 1), 2);
        due("write to 1", x.write(1, 1), 1);
        noIndex("no buffer 2", () -> x.length(2));
        noIndex("no buffer -1", () -> x.length(-1));
    }

    private static void cursorAtFirst() {
        for (int buffer = 0; buffer < 2; buffer++) {
            cursors("at first", buffer, 0, NONE, NONE, NONE, 0);
        }
        runs("HERE", here(), 0);
        fill(0, 3);
        cursors("letters come behind it", 0, 0, NONE, NONE, NONE, 0);
        runs("MOVE moves it", move(3), 3);
        cursors("MOVE moves it", 0, 3, NONE, NONE, NONE, 0);
        cursors("not that of the other one", 1, 0, NONE, NONE, NONE, 0);
    }

    private static void mostOfAll() {
        int first = insert(0), last = insert(25);
        fill(0, 38);
        runs("the 39th", first, 0);
        runs("the 40th", last, 25);
        due("40", x.length(0), 40);
        due("the first one", x.letter(0, 0), 0);
        due("the second one", x.letter(0, 1), 25);
        runs("the 41st", first, RANGE);
        due("40", x.length(0), 40);
        runs("the last place", move(40), 40);
        runs("behind it", move(41), RANGE);
        due("the second cursor", x.run(another(40)), 1);
        due("the third cursor", x.run(another(0)), 2);
        due("the fourth cursor", x.run(another(39)), 3);
        due("the fifth cursor", x.run(another(0)), RANGE);
        cursors("the places", 0, 40, 40, 0, 39, 0);
        noIndex("cursor 4", () -> x.cursor(0, 4));
        runs("one less, and one again", then(erase(), last), 25);
        runs("not two", then(erase(), last, last), RANGE);
    }

    private static void ofTheCurrentBuffer() {
        write(0, "abc");
        write(1, "vwxyz");
        int other = into(1), back = into(0);
        runs("LENGTH", then(other, letters()), 5);
        runs("LENGTH", then(back, letters()), 3);
        runs("MOVE", then(other, move(5)), 5);
        runs("MOVE", then(back, move(5)), RANGE);
        runs("HERE", then(back, here()), 0);
        runs("HERE", then(other, here()), 5);
        runs("LETTER", then(back, behind()), 0);
        runs("LETTER", then(other, behind()), -1);
        runs("ERASE", then(other, erase()), 25);
        runs("ERASE", then(back, erase()), RANGE);
        runs("CURSOR", then(other, another(1)), 1);
        runs("EACH", then(other, each(num(1))), 2);
        runs("EACH", then(back, each(num(1))), 1);
        runs("CURSOR", then(back, another(1)), 1);
        runs("INSERT", then(other, insert(6)), 6);
        text("one", 1, "vwxyg");
        text("zero", 0, "abc");
        cursors("one", 1, 5, 1, NONE, NONE, 0);
        cursors("zero", 0, 0, 1, NONE, NONE, 0);
    }

    private static void inserts() {
        runs("0", insert(0), 0);
        runs("25", insert(25), 25);
        for (int letter : new int[] {-9999, -2, -1, 26, 27, 9999}) {
            int wrong = insert(letter);
            runs("letter " + letter, wrong, RANGE);
            trace("letter " + letter, wrong);
        }
        text("two of them", 0, "az");
        fill(0, 39);
        int one = insert(7);
        runs("39 letters", one, 7);
        costs("40 letters", one, RANGE, 2);
        trace("40 letters", one);
        runs("40 letters, behind a", one(Macroloom.INSERT, stay(0, num(7))), RANGE);
        due("behind a", x.register(0), 7);
        runs("the other text has room", then(into(1), one), 7);
        due("40", x.length(0), 40);
    }

    private static void cursorsByInsert() {
        write(0, "abcd");
        x.run(then(move(2), another(1), another(2), another(3)));
        cursors("ahead of it", 0, 2, 1, 2, 3, 0);
        runs("INSERT", insert(25), 25);
        text("at the place of the active cursor", 0, "abzcd");
        cursors("farther on alone", 0, 3, 1, 2, 4, 0);
        fresh();
        write(0, "ab");
        x.run(then(another(0), another(2), another(1)));
        runs("at the beginning", insert(25), 25);
        text("at the beginning", 0, "zab");
        cursors("at the beginning", 0, 1, 0, 3, 2, 0);
        x.run(move(3));
        runs("at the end", insert(24), 24);
        text("at the end", 0, "zaby");
        cursors("at the end: one there stays", 0, 4, 0, 3, 2, 0);
        runs("by another active one", each(iff(here(), num(1), insert(23))), 4);
        text("by another active one", 0, "xzaby");
        cursors("by another active one", 0, 5, 1, 4, 3, 0);
        cursors("the other text", 1, 0, NONE, NONE, NONE, 0);
    }

    private static void hookIsCalled() {
        int letter = name(0), marks = stay(0, letter);
        x.define(0, 1, marks, NONE);
        int inserts = insert(3);
        runs("no hook", inserts, 3);
        due("no hook", x.register(0), 0);
        x.run(hook(0));
        costs("a hook", inserts, 3, 4);
        due("the letter", x.register(0), 3);
        runs("the letter 0", insert(0), 0);
        due("the letter 0", x.register(0), 0);
        runs("the letter 25", insert(25), 25);
        due("the letter 25", x.register(0), 25);
        runs("at each letter", then(inserts, insert(4)), 4);
        due("the last one", x.register(0), 4);
        int where = stay(1, here()), many = stay(2, letters());
        x.define(1, 1, then(where, many), NONE);
        runs("behind the letter", then(hook(1), inserts), 3);
        due("the cursor is behind it", x.register(1), 7);
        due("the letter stands already", x.register(2), 7);
        x.define(2, 1, then(insert(20), marks), NONE);
        runs("not within itself", then(hook(2), insert(5)), 5);
        due("not within itself", x.register(0), 5);
        due("two letters more", x.length(0), 9);
        runs("again behind it", insert(6), 6);
        due("again behind it", x.register(0), 6);
        hookIsNotCalled();
    }

    private static void hookIsNotCalled() {
        fresh();
        int letter = name(0), marks = stay(0, letter);
        x.define(0, 1, marks, NONE);
        x.define(1, 1, then(hook(0), insert(9), num(1)), NONE);
        runs("another hook, while one is called", then(hook(1), insert(3)), 3);
        due("another hook, while one is called", x.register(0), 0);
        due("it is the hook behind that", x.run(insert(4)), 4);
        due("it is the hook behind that", x.register(0), 4);
        x.define(2, 1, then(hook(NONE), num(1)), NONE);
        runs("none any more", then(hook(2), insert(3), insert(5)), 5);
        due("none any more", x.register(0), 4);
        x.define(3, 1, then(fail(8), num(1)), NONE);
        runs("behind its error", then(hook(3), attempt(1, insert(3), num(1)), hook(0), insert(6)), 6);
        due("behind its error", x.register(0), 6);
        x.define(4, 2, stay(1, name(1)), then(insert(11), sum(letter, num(1))));
        runs("two parameters, and INSERT in the standard", then(hook(4), insert(7)), 7);
        due("the second one", x.register(1), 8);
        x.setBudget(4);
        runs("ended by BUDGET within the hook", then(hook(0), insert(2)), BUDGET);
        x.setBudget(300);
        due("behind BUDGET", x.run(then(hook(0), insert(8))), 8);
        due("behind BUDGET", x.register(0), 8);
        x.start(insert(10));
        x.step(3);
        x.giveUp();
        due("behind giveUp", x.run(insert(12)), 12);
        due("behind giveUp", x.register(0), 12);
        x.define(5, 1, then(call(0, num(21), NONE), insert(1)), NONE);
        runs("calls of other slots", then(hook(5), insert(2)), 2);
        due("calls of other slots", x.register(0), 21);
        runs("a slot that is the hook, called by CALL", then(hook(0), call(5, NONE, NONE)), 1);
        due("a slot that is the hook, called by CALL", x.register(0), 1);
    }

    private static void hookEnds() {
        int inserts = insert(3), caught = attempt(1, inserts, name(1));
        int[] values = {num(9), fun(0, num(1)), gen(num(1)), back(num(8)), num(-1), let(0, num(5))};
        x.run(hook(0));
        for (int i = 0; i < values.length; i++) {
            x.define(0, 1, values[i], NONE);
            runs("a value does not matter, " + i, inserts, 3);
        }
        due("letters", x.length(0), 6);
        x.define(0, 1, fail(12), NONE);
        runs("an error", inserts, ERROR + 12);
        due("undone as the run ends by it", x.length(0), 6);
        runs("an error, caught", caught, 12);
        due("the letter stands", x.length(0), 7);
        x.define(0, 1, leave(0, num(1)), NONE);
        runs("BREAK out of it", loop(0, leave(0, caught)), -6);
        due("the letter stands", x.length(0), 8);
        x.define(0, 0, num(1), NONE);
        runs("no parameter", caught, -3);
        due("the letter stands", x.length(0), 9);
        x.define(0, 2, name(1), fail(13));
        runs("an error of the standard", caught, 13);
        due("the letter stands", x.length(0), 10);
        runs("no function", then(hook(5), caught), -1);
        due("the letter stands", x.length(0), 11);
        due("the cursor is behind it", x.cursor(0, 0), 11);
        int none = insert(4);
        runs("no function", none, UNBOUND);
        trace("INSERT itself", none);
        runs("RANGE is ahead of that", insert(26), RANGE);
        runs("TYPE is ahead of that", one(Macroloom.INSERT, fun(0, num(1))), TYPE);
    }

    private static void erases() {
        int erases = erase();
        costs("an empty text", erases, RANGE, 1);
        trace("an empty text", erases);
        write(0, "abc");
        costs("at the place 0", erases, RANGE, 1);
        runs("at the place 1", then(move(1), erases), 0);
        text("at the place 1", 0, "bc");
        runs("at the place 0 again", erases, RANGE);
        runs("at the end", then(move(2), erases), 2);
        text("at the end", 0, "b");
        runs("the last one", erases, 1);
        text("the last one", 0, "");
        runs("none any more", erases, RANGE);
        fill(0, 40);
        runs("the 40th", then(move(40), erases), 13);
        due("39", x.length(0), 39);
    }

    private static void cursorsByErase() {
        int erases = erase();
        write(0, "abcde");
        x.run(then(move(3), another(4), another(1), another(5)));
        cursors("ahead of it", 0, 3, 4, 1, 5, 0);
        runs("ERASE", erases, 2);
        text("ERASE", 0, "abde");
        cursors("each one behind it, none goes", 0, 2, 3, 1, 4, 0);
        runs("ERASE", erases, 1);
        cursors("the one at the place to which it comes goes", 0, 1, 2, NONE, 3, 0);
        x.run(another(1));
        cursors("one at its place", 0, 1, 2, 1, 3, 0);
        runs("ERASE", erases, 0);
        text("ERASE", 0, "de");
        cursors("the one at its place goes with it", 0, 0, 1, NONE, 2, 0);
        runs("ERASE at 0", erases, RANGE);
        cursors("nothing goes by RANGE", 0, 0, 1, NONE, 2, 0);
        x.run(then(another(0), move(1)));
        cursors("ahead, at it, behind it", 0, 1, 1, 0, 2, 0);
        runs("ERASE", erases, 3);
        cursors("two go at once", 0, 0, NONE, NONE, 1, 0);
        fresh();
        write(0, "ab");
        x.run(then(move(2), another(0), another(2), another(2)));
        runs("ERASE at the end", erase(), 1);
        cursors("two go with it", 0, 1, 0, NONE, NONE, 0);
        runs("by another active one", each(iff(same(here(), num(1)), erase(), num(1))), 2);
        cursors("the lowest number does not matter", 0, 0, NONE, NONE, NONE, 0);
    }

    private static void moves() {
        runs("0 of 0", move(0), 0);
        runs("1 of 0", move(1), RANGE);
        write(0, "abc");
        costs("3 of 3", move(3), 3, 2);
        due("3 of 3", x.cursor(0, 0), 3);
        for (int place : new int[] {-9999, -1, 4, 5, 9999}) {
            int wrong = move(place);
            runs("to " + place, wrong, RANGE);
            trace("to " + place, wrong);
        }
        due("unchanged", x.cursor(0, 0), 3);
        runs("to 0", move(0), 0);
        due("to 0", x.cursor(0, 0), 0);
        x.run(another(2));
        runs("the active one alone", move(1), 1);
        cursors("the active one alone", 0, 1, 2, NONE, NONE, 0);
        runs("to where it is", move(1), 1);
        runs("to where another one is", move(2), 2);
        cursors("both stay", 0, 2, 2, NONE, NONE, 0);
    }

    private static void places() {
        int here = here();
        costs("at first", here, 0, 1);
        write(0, "abcdefgh");
        runs("letters behind it do not matter", here, 0);
        runs("moved", then(move(8), here), 8);
        runs("behind what was inserted", then(insert(1), here), 9);
        runs("where something was erased", then(erase(), here), 8);
        runs("of the active one", then(another(3), here), 8);
        fill(0, 40);
        runs("the last place", then(move(40), here), 40);
    }

    private static void lettersBehind() {
        int behind = behind();
        costs("an empty text", behind, -1, 1);
        write(0, "azb");
        runs("the first", behind, 0);
        runs("the second", then(move(1), behind), 25);
        runs("the last", then(move(2), behind), 1);
        runs("none behind it", then(move(3), behind), -1);
        x.write(0, 7);
        runs("one that came", behind, 7);
        runs("the other text", then(into(1), behind), -1);
        fresh();
        fill(0, 40);
        runs("the 40th", then(move(39), behind()), 13);
        runs("behind the 40th", then(move(40), behind()), -1);
        runs("one that is gone is not told", then(erase(), behind()), -1);
    }

    private static void lengths() {
        int count = letters();
        costs("none", count, 0, 1);
        x.write(0, 5);
        runs("one", count, 1);
        runs("none again", then(move(1), erase(), count), 0);
        fill(0, 39);
        runs("39", count, 39);
        runs("40", then(insert(1), count), 40);
        runs("40", count, 40);
        runs("the other text", then(into(1), count), 0);
    }

    private static void moreCursors() {
        write(0, "abc");
        for (int place : new int[] {-9999, -1, 4, 9999}) {
            int wrong = another(place);
            runs("at " + place, wrong, RANGE);
            trace("at " + place, wrong);
        }
        cursors("none came", 0, 0, NONE, NONE, NONE, 0);
        costs("at the end", another(3), 1, 2);
        runs("at 0", another(0), 2);
        runs("at the same place", another(3), 3);
        cursors("four", 0, 0, 3, 0, 3, 0);
        int fifth = another(0);
        runs("the fifth", fifth, RANGE);
        trace("the fifth", fifth);
        x.run(then(move(1), erase()));
        cursors("the third went", 0, 0, 2, NONE, 2, 0);
        runs("the lowest that is free", fifth, 2);
        runs("none is free", fifth, RANGE);
        x.run(then(move(2), erase()));
        cursors("two went", 0, 1, NONE, 0, NONE, 0);
        runs("the lowest of two", another(1), 1);
        runs("the next one", another(1), 3);
        runs("none is free", fifth, RANGE);
        fresh();
        runs("at 0 of an empty text", another(0), 1);
        runs("at 1 of an empty text", another(1), RANGE);
        write(0, "ab");
        x.run(then(move(1), another(2)));
        int part = iff(same(here(), num(2)), erase(), num(1));
        runs("the cursor 0 goes by another one", each(part), 3);
        cursors("the cursor 0 is free", 0, NONE, 0, 1, NONE, 1);
        runs("0 is the lowest that is free", another(1), 0);
        cursors("the active one stays", 0, 1, 0, 1, NONE, 1);
    }

    /** The places of the cursors as they are done, a digit each. */
    private static int listing() {
        return then(let(1, num(0)), each(put(1, sum(two(Macroloom.TIMES, name(1), num(10)), here()))), name(1));
    }

    private static void eachInOrder() {
        write(0, "abcd");
        runs("one", listing(), 0);
        x.run(then(move(4), another(2), another(3), another(1)));
        runs("by rising places", listing(), 1234);
        fresh();
        write(0, "abcd");
        x.run(then(move(2), another(2), another(0), another(2)));
        int one = num(1);
        x.start(each(one));
        int[] order = {2, 0, 1, 3};
        for (int cursor : order) {
            x.step(1);
            due("by rising numbers at the same place", x.activeCursor(0), cursor);
        }
        x.step(1);
        due("four", x.outcome(), 4);
        runs("those made meanwhile are not among them", then(move(1), erase(), each(then(attempt(0, another(0), one), one))), 3);
        fresh();
        write(0, "abcd");
        x.run(then(another(2)));
        runs("one made meanwhile", each(attempt(0, another(1), num(1))), 2);
        cursors("it is there", 0, 0, 2, 1, 1, 0);
        fresh();
        write(0, "abc");
        x.run(another(3));
        // The cursor 0 goes to the end, behind the cursor 1; each is done once all the same.
        runs("the order is that when it begins", then(let(0, num(0)), each(then(put(0, sum(two(Macroloom.TIMES, name(0), num(10)), here())), move(3))), name(0)), 3);
        cursors("both at the end", 0, 3, 3, NONE, NONE, 0);
    }

    private static void eachThereStill() {
        write(0, "abcdef");
        x.run(then(move(1), another(2), another(4), another(6)));
        // The first one erases up to the second and third one, which go.
        int first = iff(same(here(), num(1)), then(move(4), erase(), erase()), num(1));
        runs("those that went are left out", each(first), 2);
        cursors("two are there", 0, 2, NONE, NONE, 4, 0);
        fresh();
        write(0, "abc");
        x.run(then(another(3)));
        int second = iff(here(), stay(1, here()), then(move(3), erase(), move(0), another(1)));
        runs("another one got its number meanwhile", each(second), 2);
        due("it is done where that one is", x.register(1), 1);
        cursors("another one", 0, 0, 1, NONE, NONE, 0);
        fresh();
        write(0, "ab");
        x.run(another(2));
        // A cursor made meanwhile with a number that was free is not done.
        runs("another number", each(iff(here(), num(1), another(1))), 2);
        cursors("another number", 0, 0, 2, 1, NONE, 0);
        fresh();
        write(0, "ab");
        write(1, "xyz");
        x.run(then(into(1), another(3), into(0), another(2)));
        int over = each(then(into(1), insert(0)));
        runs("of this buffer", over, 2);
        cursors("the active one of the other buffer stays", 1, 2, 5, NONE, NONE, 0);
        due("the buffer stays as it became", x.buffer(), 1);
        text("the other buffer", 1, "aaxyz");
        x.run(into(0));
        x.start(each(then(into(1), num(1))));
        x.step(4);
        due("the first", x.activeCursor(0), 0);
        x.step(2);
        due("the second, though the buffer 1 is current", x.activeCursor(0), 1);
        due("that of the buffer 1", x.activeCursor(1), 0);
        x.giveUp();
    }

    private static void eachCounts() {
        int one = num(1);
        costs("one", each(one), 1, 2);
        write(0, "ab");
        for (int count = 2; count <= 4; count++) {
            x.run(another(1));
            costs("as many as there are", each(one), count, count + 1);
        }
        costs("within one another", each(each(one)), 4, 21);
        runs("the values do not matter", each(fun(0, one)), 4);
        runs("one that ends meanwhile does not count", then(let(1, num(0)), loop(0, each(iff(below(put(1, sum(name(1), one)), num(3)), one, leave(0, name(1)))))), 3);
        // The cursor 0 goes first, and erases up to the others, which go.
        runs("those that went do not count", each(then(move(2), erase(), insert(3))), 1);
        runs("one is left", each(one), 1);
    }

    private static void eachEnds() {
        write(0, "abcdef");
        x.run(then(move(4), another(2), another(6)));
        cursors("ahead of it", 0, 4, 2, 6, NONE, 0);
        int one = num(1), here = here();
        runs("a value", then(each(one), here), 4);
        runs("an error", then(attempt(0, each(fail(1)), one), here), 4);
        runs("an error by the last one", then(attempt(0, each(iff(same(here, num(6)), fail(1), one)), one), here), 4);
        runs("BREAK", then(loop(0, each(leave(0, one))), here), 4);
        runs("NEXT", then(let(0, num(0)), loop(0, iff(name(0), leave(0, here), each(then(put(0, one), again(0)))))), 4);
        runs("RETURN", then(apply(fun(0, each(back(one))), one), here), 4);
        runs("while it is done", loop(0, each(leave(0, here))), 2);
        runs("in the c of TRY it is active again", attempt(0, each(fail(1)), here), 4);
        due("activeCursor", x.activeCursor(0), 0);
        int inner = each(one), after = each(then(inner, stay(0, here)));
        runs("within another one", after, 3);
        due("the one of the outer EACH", x.register(0), 6);
        fresh();
        write(0, "abcdef");
        x.run(then(move(4), another(2), another(6)));
        // The cursor 1 erases up to the cursor 0, which goes.
        int away = iff(same(here(), num(2)), then(move(5), erase(), erase()), num(1));
        runs("it is there no more", each(away), 2);
        cursors("the lowest number", 0, NONE, 3, 4, NONE, 1);
        runs("the cursor 2 is not the lowest", each(iff(same(here(), num(4)), then(move(3), erase(), insert(0)), num(1))), 2);
        cursors("the last one", 0, NONE, NONE, 3, NONE, 2);
        fresh();
        write(0, "abcdef");
        x.run(then(another(1), another(2), another(4)));
        // The cursor 3, at 4, comes over all the others.
        runs("only the last number is left", each(iff(same(here(), num(4)), then(erase(), erase(), erase(), erase()), num(1))), 4);
        cursors("only the last number is left", 0, NONE, NONE, NONE, 0, 3);
        eachEndsLowest();
        eachEndsInTheOtherBuffer();
    }

    private static void eachEndsInTheOtherBuffer() {
        for (int buffer = 0; buffer < 2; buffer++) {
            fresh();
            write(buffer, "abcdef");
            x.run(then(into(buffer), another(2), another(3), another(6)));
            x.run(each(iff(same(here(), num(2)), then(erase(), erase()), num(1))));
            cursors("1 came over 0", buffer, NONE, 0, 1, 4, 1);
            runs("1 is active again", each(num(1)), 3);
            cursors("1 is active again", buffer, NONE, 0, 1, 4, 1);
            runs("2 comes over 1", each(iff(same(here(), num(1)), erase(), num(1))), 3);
            cursors("2 comes over 1", buffer, NONE, NONE, 0, 3, 2);
            runs("2 is active again", each(num(1)), 2);
            due("2 is active again", x.activeCursor(buffer), 2);
            runs("by an error too", attempt(0, each(fail(5)), name(0)), 5);
            due("by an error too", x.activeCursor(buffer), 2);
            x.run(then(another(0), another(0)));
            cursors("lower ones came", buffer, 0, 0, 0, 3, 2);
            runs("2 is active again, not a lower one", each(num(1)), 4);
            due("2 is active again, not a lower one", x.activeCursor(buffer), 2);
            int over = each(then(into(1 - buffer), num(1)));
            runs("though another buffer is current then", over, 4);
            due("though another buffer is current then", x.activeCursor(buffer), 2);
            due("that of the other one", x.activeCursor(1 - buffer), 0);
            due("that is current", x.buffer(), 1 - buffer);
        }
    }

    private static void eachEndsLowest() {
        fresh();
        write(0, "abcdef");
        x.run(then(another(3), another(5), another(6)));
        int cursor = num(1);
        // The cursor 0 comes to the cursor 1, and goes by that.
        x.run(each(iff(same(here(), num(3)), then(move(1), erase(), move(2)), cursor)));
        cursors("0 went, 1 is the lowest", 0, NONE, 2, 4, 5, 1);
        runs("another one gets its number", another(0), 0);
        cursors("it is not active", 0, 0, 2, 4, 5, 1);
        // By the cursor 2 the cursor 1 goes, and by the cursor 3 the cursor 2; each time another one gets the number.
        runs("a new one with its number", each(iff(same(here(), num(4)), then(move(3), erase(), another(1)), cursor)), 4);
        cursors("the number is there: it is active again", 0, 0, 1, 1, 2, 1);
        runs("by an error too", attempt(0, each(iff(same(here(), num(2)), then(erase(), fail(7)), cursor)), name(0)), 7);
        cursors("the lowest number, by an error too", 0, 0, NONE, NONE, 1, 0);
        x.setBudget(3);
        runs("BUDGET", each(then(cursor, cursor)), BUDGET);
        due("undone", x.activeCursor(0), 0);
    }

    private static void buffers() {
        for (int value : new int[] {-9999, -2, -1, 2, 3, 9999}) {
            int wrong = into(value);
            runs("BUFFER " + value, wrong, RANGE);
            trace("BUFFER " + value, wrong);
            due("unchanged", x.buffer(), 0);
        }
        costs("BUFFER 1", into(1), 1, 2);
        due("current", x.buffer(), 1);
        costs("BUFFER 1 again", into(1), 1, 2);
        due("current", x.buffer(), 1);
        runs("it stands in the next run", then(insert(2), letters()), 1);
        due("of the buffer 1", x.length(1), 1);
        costs("BUFFER 0", into(0), 0, 2);
        due("current", x.buffer(), 0);
        runs("there and back", then(into(1), into(0), letters()), 0);
    }

    private static void noNumber() {
        int[] kinds = {Macroloom.INSERT, Macroloom.MOVE, Macroloom.CURSOR, Macroloom.BUFFER};
        int zero = num(0), function = fun(0, zero), generator = gen(zero);
        for (int kind : kinds) {
            for (int value : new int[] {function, generator}) {
                int wrong = one(kind, value);
                costs("kind " + kind, wrong, TYPE, 2);
                trace("kind " + kind, wrong);
            }
        }
        text("unchanged", 0, "");
        cursors("unchanged", 0, 0, NONE, NONE, NONE, 0);
        fill(0, 40);
        x.run(then(another(0), another(0), another(0)));
        runs("INSERT, where the text is full", one(Macroloom.INSERT, function), TYPE);
        runs("CURSOR, where there are 4", one(Macroloom.CURSOR, generator), TYPE);
        runs("numbers", one(Macroloom.BUFFER, zero), 0);
        runs("numbers", one(Macroloom.MOVE, zero), 0);
        fresh();
        x.define(0, 1, stay(0, num(5)), NONE);
        runs("no hook is called", then(hook(0), attempt(0, one(Macroloom.INSERT, fun(0, num(1))), name(0))), -3);
        due("no hook is called", x.register(0), 0);
    }
}
