/** "How a node is done": bodies, functions, slots, generators, what is active, what is loaded anew. Promise 8 and, as each is tried, 9 and 10. */
final class CallEdges extends Edges {
    static void all() {
        edge(8, "BREAK, NEXT, RETURN and YIELD go to nothing outside of the body in which they are, and tell ASTRAY behind their part a or b.", CallEdges::astray);
        edge(8, "FUNCTION a b: a function with the name a as its parameter and the body b, which keeps the innermost scope.", CallEdges::functions);
        edge(8, "APPLY a b: a, then b; the value of a has to be a function, otherwise TYPE.", CallEdges::applied);
        edge(8, "It is called: its body is done in a new scope, whose outer one is that which it keeps, with a cell for its parameter with the value of b.", CallEdges::calledInNewScope);
        edge(8, "they are the arguments, of which there are as many as are not NONE", CallEdges::arguments);
        edge(8, "UNBOUND, if the slot has no function; TYPE, if there are more arguments than it has parameters.", CallEdges::noCall);
        edge(8, "its body, as the slot has it when it begins, behind the standard, is done in a new scope without an outer one", CallEdges::bodyWhenItBegins);
        edge(8, "in which the names 0 and 1 are its parameters.", CallEdges::namesOfParameters);
        edge(8, "A parameter without an argument is 0; but the second one is the value of the standard of the slot, if it has one", CallEdges::standards);
        edge(8, "which is done as a body by itself, in the new scope, when the first one is there.", CallEdges::standardByItself);
        edge(8, "RETURN a: the body, if it is that of a function or a generator, ends with the value of a; ASTRAY, if it is what is run, or a standard.", CallEdges::returns);
        edge(8, "GENERATOR a: a generator with the body a, which keeps the innermost scope, and is fresh.", CallEdges::freshGenerators);
        edge(8, "YIELD a: the body, which has to be that of a generator, rests with the value of a; when it goes on, the value of YIELD is 0.", CallEdges::yields);
        edge(8, "ASTRAY (behind a), if the body is no such one, or if the YIELD lies, in this body, within the part of an EACH, or the c of an OPTION, or the generator is being closed.", CallEdges::yieldsAstray);
        edge(8, "the value of a has to be a generator that is neither being asked nor being closed just now, otherwise TYPE.", CallEdges::askedOrClosed);
        edge(8, "If it is fresh, its body is done, in a new scope whose outer one is that which it keeps; if it rests, it goes on; the value of ASK is that with which it rests next.", CallEdges::freshOrAtRest);
        edge(8, "If its body ends with a value, or by RETURN, it is spent, and the value of ASK is -1; likewise if it is spent already.", CallEdges::spent);
        edge(8, "If it ends with an error, it is spent, and ASK ends with that.", CallEdges::spentByError);
        edge(8, "RELOAD a b, a slot 0 to 5: the function of the slot a has the body b from now on, where it is called; UNBOUND, if it has none; 0.", CallEdges::reloads);
        edge(31, "HOOK a: the hook becomes the slot a, or NONE; 0.", CallEdges::hooks);
        edge(8, "at one of these, if 12 are active already, this is DEPTH", CallEdges::twelve);
        edge(8, "APPLY, CALL, ASK of a generator that is not spent, and the call of the hook (by INSERT) are active as long as the body that they call is being done, up to where it ends or rests", CallEdges::upToWhereItEnds);
        edge(8, "(instead of calling; a standard is done ahead of that, when its CALL is not active yet)", CallEdges::standardAheadOfDepth);
    }

    /** A node in each of the bodies that there are, with loops of all labels outside of it; what is run is body 0. */
    private static int within(int body, int node) {
        int inside = node;
        switch (body) {
            case 1:
                inside = apply(fun(0, node), num(1));
                break;
            case 2:
                x.define(0, 0, node, NONE);
                inside = call(0, NONE, NONE);
                break;
            case 3:
                x.define(0, 2, num(1), node);
                inside = call(0, num(1), NONE);
                break;
            case 4:
                inside = ask(gen(node));
                break;
            default:
                return node;
        }
        for (int label = 0; label < 4; label++) {
            inside = loop(label, inside);
        }
        return inside;
    }

    private static void astray() {
        for (int body = 0; body < 5; body++) {
            fresh();
            int part = stay(0, num(5));
            int[] going = {leave(2, part), again(2), back(part), yielded(part)};
            for (int which = 0; which < 4; which++) {
                boolean goes = which == 2 && (body == 1 || body == 2 || body == 4) || which == 3 && body == 4;
                if (goes) {
                    x.setBudget(40);
                    runs("body " + body + ", " + which + " goes", within(body, going[which]), BUDGET);
                    x.setBudget(300);
                    continue;
                }
                x.run(stay(0, num(0)));
                int whole = within(body, going[which]);
                runs("body " + body + ", " + which, whole, ASTRAY);
                due("the node itself", x.traceAt(0), going[which]);
                due("calls behind it", x.traced(), body == 0 || body == 3 ? 1 : 2);
                due("behind its part", x.register(0), which == 1 ? 0 : 5);
            }
        }
        fresh();
        int leaves = leave(2, num(5));
        for (int body = 1; body < 5; body++) {
            runs("a loop in the body " + body + ", and those outside go on", within(body, loop(2, leaves)), BUDGET);
        }
        runs("an error of the part comes first", leave(2, fail(3)), ERROR + 3);
        runs("an error of the part comes first", back(fail(3)), ERROR + 3);
        runs("an error of the part comes first", yielded(fail(3)), ERROR + 3);
    }

    private static void functions() {
        for (int name = 0; name < 8; name++) {
            runs("the name " + name, apply(fun(name, name(name)), num(7)), 7);
        }
        noArgument("the name 8", () -> fun(8, 0));
        noArgument("the name -1", () -> fun(-1, 0));
        fresh();
        int sees = name(0);
        runs("no other name", apply(fun(1, sees), num(7)), UNBOUND);
        runs("it keeps the innermost scope", apply(scope(then(let(0, num(4)), fun(1, sees))), num(7)), 4);
        runs("not that where it is called", then(let(2, fun(1, sees)), scope(then(let(0, num(4)), apply(name(2), num(7))))), UNBOUND);
        runs("as it is when it is called", then(let(0, num(4)), let(2, fun(1, sees)), let(0, num(5)), apply(name(2), num(7))), 5);
        runs("its parameter ahead of what it keeps", then(let(0, num(4)), apply(fun(0, sees), num(7))), 7);
        runs("its parameter alone is new", then(let(0, num(4)), apply(fun(0, let(0, num(9))), num(7)), sees), 4);
        int count = fun(1, put(0, sum(sees, name(1))));
        runs("two functions, one scope", then(let(0, num(1)), let(2, count), let(3, count), apply(name(2), num(10)), apply(name(3), num(100))), 111);
        int counter = scope(then(let(0, num(1)), count));
        runs("two functions, two scopes", then(let(2, counter), let(3, counter), apply(name(2), num(10)), apply(name(3), num(100))), 101);
    }

    private static void applied() {
        int function = fun(0, name(0)), marks = stay(0, num(5));
        runs("a function", apply(function, num(-9999)), -9999);
        for (int value : new int[] {num(0), num(9999), gen(num(1))}) {
            x.run(stay(0, num(0)));
            int wrong = apply(value, marks);
            runs("no function", wrong, TYPE);
            trace("no function", wrong);
            due("behind b", x.register(0), 5);
        }
        x.run(stay(0, num(0)));
        runs("an error of a", apply(fail(3), marks), ERROR + 3);
        due("ahead of b", x.register(0), 0);
        runs("an error of b, ahead of TYPE", apply(num(1), fail(4)), ERROR + 4);
        runs("a spent one is no function", apply(then(let(1, gen(num(1))), ask(name(1)), name(1)), num(1)), TYPE);
        runs("the value of the body", apply(fun(0, fun(1, num(1))), num(1)), FUN + 1);
    }

    private static void calledInNewScope() {
        int first = name(0), second = name(1);
        int binds = fun(0, then(attempt(2, second, let(1, num(0))), let(1, sum(first, num(1))), second));
        runs("the parameter", apply(binds, num(4)), 5);
        runs("a new scope each time", then(let(3, binds), apply(name(3), num(4)), apply(name(3), num(7))), 8);
        runs("none of it is left", then(let(3, fun(0, attempt(2, second, then(let(1, first), num(-1))))), apply(name(3), num(4)), apply(name(3), num(7))), -1);
        runs("LET takes the parameter's cell", apply(fun(0, then(let(0, num(9)), first)), num(4)), 9);
        runs("PUT goes into it", then(let(0, num(1)), apply(fun(0, put(0, num(9))), num(4)), first), 1);
        runs("PUT goes out where it has none", then(let(0, num(1)), apply(fun(1, put(0, second)), num(4)), first), 4);
        runs("one call in the other, each its own", then(let(3, fun(0, iff(first, sum(apply(name(3), minus(first, num(1))), first), num(0)))), apply(name(3), num(4))), 10);
        runs("a parameter that is a function", apply(fun(0, apply(first, num(6))), fun(1, sum(second, num(1)))), 7);
        runs("the scope that it keeps, though that has ended", apply(apply(fun(0, fun(1, sum(first, second))), num(30)), num(4)), 34);
    }

    private static void arguments() {
        int both = sum(name(0), two(Macroloom.TIMES, name(1), num(10)));
        x.define(5, 2, both, NONE);
        costs("none", call(5, NONE, NONE), 0, 6);
        costs("one", call(5, num(3), NONE), 3, 7);
        costs("two", call(5, num(3), num(4)), 43, 8);
        runs("0 is one", call(5, num(0), num(4)), 40);
        x.define(4, 1, name(0), NONE);
        runs("none of one", call(4, NONE, NONE), 0);
        runs("one of one", call(4, num(3), NONE), 3);
        runs("two of one", call(4, num(3), num(4)), TYPE);
        x.define(3, 0, num(8), NONE);
        runs("none of none", call(3, NONE, NONE), 8);
        runs("one of none", call(3, num(3), NONE), TYPE);
        runs("two of none", call(3, num(3), num(4)), TYPE);
        x.define(2, 2, both, num(9));
        runs("none, with a standard", call(2, NONE, NONE), 90);
        runs("one, with a standard", call(2, num(3), NONE), 93);
        runs("two, with a standard", call(2, num(3), num(4)), 43);
        noArgument("the slot 6", () -> call(6, NONE, NONE));
        noArgument("the slot -1", () -> call(-1, NONE, NONE));
    }

    private static void noCall() {
        for (int slot = 0; slot < 6; slot++) {
            fresh();
            for (int other = 0; other < 6; other++) {
                if (other != slot) {
                    x.define(other, 2, num(7), NONE);
                }
            }
            int none = call(slot, NONE, NONE), two = call(slot, num(1), stay(0, num(5)));
            costs("no function in " + slot, none, UNBOUND, 1);
            trace("no function in " + slot, none);
            costs("no function in " + slot + ", behind its parts", two, UNBOUND, 4);
            due("behind its parts", x.register(0), 5);
            runs("one beside it", call(slot == 5 ? 4 : slot + 1, num(1), num(1)), 7);
            x.define(slot, 1, num(8), NONE);
            costs("more arguments", two, TYPE, 4);
            trace("more arguments", two);
            runs("as many", call(slot, num(1), NONE), 8);
            runs("fewer", none, 8);
            x.define(slot, 2, num(8), NONE);
            runs("as many", two, 8);
        }
        fresh();
        int standard = stay(1, num(6));
        x.define(0, 2, num(1), standard);
        x.define(0, 1, num(1), NONE);
        runs("TYPE is ahead of all", call(0, num(1), num(2)), TYPE);
        due("no standard is done", x.register(1), 0);
    }

    private static void bodyWhenItBegins() {
        int old = num(1), changed = num(2);
        x.define(0, 2, old, reload(0, changed));
        runs("behind the standard", call(0, NONE, NONE), 2);
        due("it stands", x.body(0), changed);
        x.define(0, 2, old, reload(0, changed));
        runs("no standard for two", call(0, num(1), num(1)), 1);
        x.define(1, 1, old, NONE);
        runs("behind the argument", call(1, reload(1, changed), NONE), 2);
        x.define(1, 1, then(reload(1, changed), old), NONE);
        runs("not behind its beginning", call(1, NONE, NONE), 1);
        runs("but the next time", call(1, NONE, NONE), 2);
        x.define(2, 0, name(5), NONE);
        runs("no outer scope", then(let(5, num(1)), call(2, NONE, NONE)), UNBOUND);
        x.define(2, 0, let(5, num(1)), NONE);
        runs("a new scope each time", then(call(2, NONE, NONE), attempt(0, name(5), num(9))), 9);
        x.define(3, 1, fun(2, put(0, sum(name(0), name(2)))), NONE);
        runs("a new scope each time", then(let(6, call(3, num(1), NONE)), let(7, call(3, num(10), NONE)), apply(name(6), num(5)), apply(name(7), num(7))), 17);
    }

    private static void namesOfParameters() {
        for (int parameters = 0; parameters < 3; parameters++) {
            for (int name = 0; name < 8; name++) {
                fresh();
                x.define(0, parameters, name(name), NONE);
                int want = name < parameters ? 0 : UNBOUND;
                runs("name " + name + " of " + parameters + " without arguments", call(0, NONE, NONE), want);
                if (parameters > 0) {
                    runs("name " + name + " of " + parameters + ", one argument", call(0, num(4), NONE), name == 0 ? 4 : want);
                }
                if (parameters > 1) {
                    runs("name " + name + " of " + parameters + ", two arguments", call(0, num(4), num(5)), name < 2 ? name + 4 : UNBOUND);
                }
            }
        }
    }

    private static void standards() {
        int both = sum(two(Macroloom.TIMES, name(0), num(100)), name(1));
        x.define(0, 2, both, NONE);
        runs("0 and 0", call(0, NONE, NONE), 0);
        runs("the second one 0", call(0, num(3), NONE), 300);
        x.define(0, 2, both, num(7));
        runs("the first one 0", call(0, NONE, NONE), 7);
        runs("the standard", call(0, num(3), NONE), 307);
        runs("an argument", call(0, num(3), num(0)), 300);
        x.define(1, 2, both, stay(0, num(8)));
        runs("not done where there is an argument", call(1, num(3), num(1)), 301);
        due("not done", x.register(0), 0);
        runs("done", call(1, num(3), NONE), 308);
        due("done", x.register(0), 8);
        x.define(2, 2, name(1), fun(0, num(1)));
        runs("a function", call(2, NONE, NONE), FUN);
        runs("each time anew", then(call(2, NONE, NONE), call(2, NONE, NONE)), FUN + 1);
        x.define(3, 2, num(4), fail(9));
        runs("its error", call(3, NONE, NONE), ERROR + 9);
        runs("no error where it is not done", call(3, num(1), num(1)), 4);
    }

    private static void standardByItself() {
        int first = name(0), second = name(1);
        x.define(0, 2, second, minus(first, num(1)));
        runs("the first one is there", call(0, num(5), NONE), 4);
        runs("the first one is there as 0", call(0, NONE, NONE), -1);
        x.define(0, 2, second, second);
        runs("the second one is not", call(0, num(5), NONE), UNBOUND);
        trace("the second one is not", second);
        x.define(0, 2, second, attempt(3, put(1, num(4)), num(6)));
        runs("not for PUT either", call(0, num(5), NONE), 6);
        x.define(0, 2, sum(name(2), sum(first, second)), then(let(2, num(100)), let(0, num(20)), let(1, num(50)), num(3)));
        runs("in the new scope", call(0, num(5), NONE), 123);
        x.define(1, 2, second, name(5));
        runs("without an outer one", then(let(5, num(1)), call(1, NONE, NONE)), UNBOUND);
        x.define(2, 2, second, loop(0, leave(0, num(6))));
        runs("a loop within it", call(2, NONE, NONE), 6);
        x.define(2, 2, second, leave(0, num(6)));
        runs("a loop around its CALL", loop(0, call(2, NONE, NONE)), ASTRAY);
        x.define(2, 2, second, back(num(6)));
        runs("RETURN", apply(fun(0, call(2, NONE, NONE)), num(1)), ASTRAY);
        x.define(2, 2, second, yielded(num(6)));
        runs("YIELD", ask(gen(call(2, NONE, NONE))), ASTRAY);
        x.define(3, 2, second, call(0, num(1), num(2)));
        runs("a standard that calls", call(3, NONE, NONE), UNBOUND);
        x.define(4, 2, second, num(1));
        x.define(3, 2, second, sum(call(4, NONE, NONE), first));
        runs("a standard in a standard", call(3, num(10), NONE), 11);
    }

    private static void returns() {
        int gives = back(num(4));
        runs("what is run", gives, ASTRAY);
        trace("what is run", gives);
        runs("what is run, in a loop", loop(0, gives), ASTRAY);
        runs("a function", apply(fun(0, then(gives, num(5))), num(1)), 4);
        x.define(0, 0, then(gives, num(5)), NONE);
        runs("the function of a slot", call(0, NONE, NONE), 4);
        runs("a generator", ask(gen(then(gives, yielded(num(5))))), -1);
        x.define(1, 2, num(1), gives);
        runs("a standard", call(1, NONE, NONE), ASTRAY);
        runs("a standard, caught there", attempt(0, call(1, NONE, NONE), name(0)), -6);
        x.define(2, 1, then(gives, fail(5)), NONE);
        runs("the hook", then(hook(2), insert(3)), 3);
        runs("the innermost body", apply(fun(0, then(apply(fun(1, gives), num(1)), num(6))), num(1)), 6);
        runs("through all that is around", apply(fun(0, loop(0, attempt(0, scope(option(0, num(1), each(last(gives, num(2))))), num(3)))), num(1)), 4);
        runs("a function's value", apply(fun(0, back(fun(0, num(1)))), num(1)), FUN + 1);
    }

    private static void freshGenerators() {
        int marks = stay(0, num(5)), asked = ask(name(0));
        runs("made alone", gen(marks), GEN);
        due("not begun", x.register(0), 0);
        runs("asked", ask(gen(marks)), -1);
        due("begun", x.register(0), 5);
        runs("it keeps the innermost scope", then(let(0, scope(then(let(1, num(6)), gen(yielded(name(1)))))), asked), 6);
        runs("not that where it is asked", then(let(0, gen(yielded(name(1)))), scope(then(let(1, num(6)), asked))), UNBOUND);
        runs("its own scope, the same one when it goes on", then(let(0, gen(then(let(1, num(6)), yielded(num(1)), yielded(name(1))))), asked, asked), 6);
        runs("its own scope", then(let(0, gen(then(let(1, num(6)), yielded(num(1))))), asked, attempt(2, name(1), num(9))), 9);
    }

    private static void yields() {
        int asked = ask(name(0));
        int three = then(yielded(num(4)), yielded(num(5)), yielded(num(6)), num(7));
        int made = let(0, gen(three));
        runs("the first time", then(made, asked), 4);
        runs("the second time", then(made, asked, asked), 5);
        runs("the third time", then(made, asked, asked, asked), 6);
        runs("the value of the body is not told", then(made, asked, asked, asked, asked), -1);
        runs("the value of YIELD is 0", then(let(0, gen(yielded(sum(yielded(num(4)), num(10))))), asked, asked), 10);
        runs("the value of YIELD is the number 0", then(let(0, gen(yielded(iff(yielded(num(4)), num(1), num(2))))), asked, asked), 2);
        runs("a value of each kind", ask(gen(yielded(fun(0, num(1))))), FUN);
        runs("a generator itself", then(made, let(1, gen(yielded(name(0)))), ask(ask(name(1)))), 4);
        runs("between two others", then(made, let(1, gen(three)), asked, ask(name(1)), asked, ask(name(1))), 5);
        runs("-1 as a value of its own", then(let(0, gen(then(yielded(num(-1)), yielded(num(3))))), asked, asked), 3);
        runs("in a part of each kind", ask(gen(sum(num(1), scope(iff(num(1), then(let(2, loop(0, attempt(0, last(yielded(num(8)), num(1)), num(1)))), num(1)), num(1)))))), 8);
    }

    private static void yieldsAstray() {
        int rests = yielded(stay(0, num(4))), seen = name(0);
        runs("what is run", rests, ASTRAY);
        due("behind a", x.register(0), 4);
        trace("what is run", rests);
        runs("a function", ask(gen(apply(fun(0, rests), num(1)))), ASTRAY);
        runs("the part of EACH", ask(gen(each(rests))), ASTRAY);
        due("the node itself", x.traceAt(0), rests);
        runs("deep in the part of EACH", ask(gen(each(scope(loop(0, attempt(0, rests, leave(0, seen))))))), -1);
        runs("behind EACH", ask(gen(then(each(num(1)), rests))), 4);
        runs("ahead of EACH", ask(gen(then(rests, each(num(1))))), 4);
        runs("the c of OPTION", ask(gen(option(3, num(1), rests))), ASTRAY);
        runs("the b of OPTION", ask(gen(option(3, rests, num(1)))), 4);
        runs("the b of OPTION, twice", then(let(0, gen(option(3, then(rests, rests), num(1)))), ask(seen), ask(seen), ask(seen)), -1);
        runs("the c of OPTION in the b of another one", ask(gen(option(3, option(2, num(1), rests), num(1)))), ASTRAY);
        runs("the b of OPTION in the c of another one", ask(gen(option(3, num(1), option(2, rests, num(1))))), ASTRAY);
        runs("behind the c of OPTION", ask(gen(then(option(3, num(1), num(1)), rests))), 4);
        runs("in another body: EACH around ASK", then(let(0, gen(then(rests, rests))), each(ask(seen))), 1);
        runs("in another body: OPTION around ASK", option(3, num(1), ask(gen(rests))), 4);
        fresh();
        int again = yielded(stay(1, num(5)));
        int closes = ask(gen(last(yielded(num(4)), attempt(0, again, stay(2, name(0))))));
        runs("it is being closed", closes, 4);
        due("behind a", x.register(1), 5);
        due("ASTRAY", x.register(2), -6);
        runs("it is being closed, not caught", ask(gen(last(yielded(num(4)), again))), ASTRAY);
        trace("it is being closed, not caught", again);
        runs("another one that it asks may rest", ask(gen(last(yielded(num(4)), stay(3, ask(gen(yielded(num(6)))))))), 4);
        due("another one that it asks may rest", x.register(3), 6);
    }

    private static void askedOrClosed() {
        int self = ask(name(0)), caught = attempt(1, self, name(1));
        for (int value : new int[] {num(0), num(-1), fun(0, num(1))}) {
            int asks = ask(value);
            runs("no generator", asks, TYPE);
            trace("no generator", asks);
        }
        runs("being asked, fresh", then(let(0, gen(yielded(caught))), self), -3);
        runs("being asked, gone on", then(let(0, gen(then(yielded(num(1)), yielded(caught)))), self, self), -3);
        runs("at rest between", then(let(0, gen(then(yielded(num(1)), yielded(num(2))))), self, self), 2);
        runs("by another one", then(let(0, gen(yielded(ask(name(2))))), let(2, gen(yielded(caught))), self), -3);
        runs("another one meanwhile", then(let(2, gen(yielded(num(7)))), let(0, gen(yielded(ask(name(2))))), self), 7);
        runs("in a function that it calls", then(let(0, gen(yielded(apply(fun(3, caught), num(1))))), self), -3);
        runs("being closed", then(let(0, gen(last(yielded(num(4)), stay(0, caught)))), self), 4);
        due("being closed", x.register(0), -3);
        int later = let(2, gen(last(yielded(num(4)), stay(1, attempt(1, ask(name(0)), name(1))))));
        runs("closed before", then(let(0, gen(yielded(num(4)))), later, self, ask(name(2))), 4);
        due("closed before: it is spent", x.register(1), -1);
        fresh();
        int asksLater = gen(last(yielded(num(4)), stay(1, ask(name(2)))));
        runs("it will be closed later", then(let(0, asksLater), let(2, gen(then(yielded(num(5)), yielded(num(6))))), ask(name(2)), ask(name(0))), 4);
        due("it goes on meanwhile", x.register(1), 6);
    }

    private static void freshOrAtRest() {
        int asked = ask(name(0)), seen = name(1);
        int counts = gen(then(let(1, num(10)), loop(0, then(yielded(seen), put(1, sum(seen, num(1)))))));
        runs("fresh", then(let(0, counts), asked), 10);
        runs("at rest", then(let(0, counts), asked, asked), 11);
        runs("at rest again", then(let(0, counts), asked, asked, asked), 12);
        runs("its scope is its own", then(let(1, num(5)), let(0, counts), asked, seen), 5);
        runs("another one of the same node is fresh", then(let(0, counts), asked, asked, let(0, counts), asked), 10);
        int outer = gen(then(yielded(put(1, sum(seen, num(1)))), yielded(put(1, sum(seen, num(1))))));
        runs("the scope that it keeps", then(let(1, num(20)), let(0, outer), asked, put(1, num(50)), asked), 51);
        runs("asked by each that has it", then(let(0, counts), asked, apply(fun(3, ask(name(3))), name(0)), asked), 12);
        x.start(then(let(0, counts), asked, asked));
        x.step(6);
        due("fresh: ahead of its body", x.active(), 1);
        due("fresh: a scope without cells of its own", x.look(1), UNBOUND);
        x.giveUp();
    }

    private static void spent() {
        int asked = ask(name(0));
        int one = gen(yielded(num(4))), none = gen(num(9)), returns = gen(then(back(num(3)), yielded(num(4))));
        runs("no YIELD", then(let(0, none), asked), -1);
        runs("spent already", then(let(0, none), asked, asked), -1);
        runs("by RETURN", then(let(0, returns), asked), -1);
        runs("by RETURN, spent already", then(let(0, returns), asked, asked), -1);
        runs("one YIELD", then(let(0, one), asked), 4);
        runs("behind it", then(let(0, one), asked, asked), -1);
        runs("spent already", then(let(0, one), asked, asked, asked), -1);
        costs("spent: its body is not done", then(let(0, gen(stay(0, num(5)))), asked, asked), -1, 10);
        runs("RETURN in FINALLY", then(let(0, gen(last(yielded(num(4)), back(num(3))))), asked, asked), -1);
        runs("the value of the body is a function", ask(gen(fun(0, num(1)))), -1);
    }

    private static void spentByError() {
        int asked = ask(name(0)), fails = fail(7);
        runs("its error", then(let(0, gen(fails)), asked), ERROR + 7);
        trace("its error", fails, asked);
        runs("spent", then(let(0, gen(fails)), attempt(1, asked, num(1)), asked), -1);
        runs("behind a YIELD", then(let(0, gen(then(yielded(num(1)), fails))), asked, attempt(1, asked, name(1))), 7);
        runs("behind a YIELD, spent", then(let(0, gen(then(yielded(num(1)), fails))), asked, attempt(1, asked, name(1)), asked), -1);
        runs("not closed then", then(let(0, gen(last(fails, stay(0, sum(num(3), num(1)))))), attempt(1, asked, num(1))), 1);
        due("its last part was done once", x.register(0), 4);
        runs("ASTRAY is an error of its own", then(let(0, gen(leave(0, num(1)))), loop(0, attempt(1, asked, leave(0, name(1))))), -6);
        runs("ASTRAY is an error of its own, spent", then(let(0, gen(leave(0, num(1)))), attempt(1, asked, num(1)), asked), -1);
    }

    private static void reloads() {
        for (int slot = 0; slot < 6; slot++) {
            fresh();
            int old = num(4), changed = num(5), reload = reload(slot, changed);
            costs("none", reload, UNBOUND, 1);
            trace("none", reload);
            x.define(slot == 5 ? 4 : slot + 1, 0, old, NONE);
            costs("none, but one beside it", reload, UNBOUND, 1);
            due("it stays", x.body(slot == 5 ? 4 : slot + 1), old);
            x.define(slot, 0, old, NONE);
            costs("one", reload, 0, 1);
            runs("its value is 0, whatever is ahead of it", then(num(4), reload), 0);
            due("from now on", x.body(slot), changed);
            runs("where it is called", call(slot, NONE, NONE), 5);
            due("the same again", x.run(reload), 0);
            due("the one beside it", x.body(slot == 5 ? 4 : slot + 1), old);
        }
        noArgument("slot 6", () -> reload(6, 0));
        noArgument("slot -1", () -> reload(-1, 0));
        fresh();
        int first = name(0);
        x.define(0, 2, first, num(6));
        runs("parameters and standard stay", then(reload(0, sum(name(0), name(1))), call(0, num(1), NONE)), 7);
        runs("UNBOUND makes none", then(attempt(0, reload(1, first), num(1)), call(1, NONE, NONE)), UNBOUND);
    }

    private static void hooks() {
        int none = hook(NONE);
        costs("NONE at first", none, 0, 1);
        due("NONE", x.hook(), NONE);
        for (int slot = 0; slot < 6; slot++) {
            costs("the slot " + slot + ", also without a function", hook(slot), 0, 1);
            due("the slot " + slot, x.hook(), slot);
        }
        costs("NONE", none, 0, 1);
        due("NONE", x.hook(), NONE);
        runs("its value is 0, whatever is ahead of it", then(num(4), hook(1)), 0);
        runs("its value is 0, whatever is ahead of it", then(num(4), none), 0);
        noArgument("6", () -> hook(6));
        noArgument("-2", () -> hook(-2));
    }

    private static void twelve() {
        int one = num(1), function = fun(5, num(5)), applies = apply(function, one);
        x.define(0, 0, num(6), NONE);
        x.define(1, 1, num(7), NONE);
        int calls = call(0, NONE, NONE), inserts = insert(8), asks = ask(gen(num(9))), goesOn = ask(name(0));
        int[] nodes = {applies, calls, asks, inserts};
        int[] values = {5, 6, -1, 8};
        x.run(hook(1));
        for (int i = 0; i < 4; i++) {
            runs("the 12th, " + i, deep(11, nodes[i]), values[i]);
            runs("the 13th, " + i, deep(12, nodes[i]), DEPTH);
            due("the node itself", x.traceAt(0), nodes[i]);
            due("and 12 behind it", x.traced(), 13);
        }
        fresh();
        one = num(1);
        goesOn = ask(name(0));
        int resting = then(let(0, gen(then(yielded(num(2)), yielded(num(3))))), goesOn);
        runs("the 12th, a generator at rest", then(resting, deep(11, goesOn)), 3);
        runs("the 13th, a generator at rest", then(resting, deep(12, goesOn)), DEPTH);
        runs("it rests still", then(resting, attempt(1, deep(12, goesOn), one), goesOn), 3);
        int spent = then(let(0, gen(one)), goesOn);
        runs("the 13th, but spent", then(spent, deep(12, goesOn)), -1);
        runs("the 13th, fresh", then(let(0, gen(yielded(num(2)))), attempt(1, deep(12, goesOn), one), goesOn), 2);
        twelveAhead();
    }

    private static void twelveAhead() {
        fresh();
        int one = num(1);
        x.define(0, 0, one, NONE);
        runs("TYPE is ahead: APPLY", deep(12, apply(one, one)), TYPE);
        runs("TYPE is ahead: ASK", deep(12, ask(one)), TYPE);
        runs("TYPE is ahead: CALL", deep(12, call(0, one, NONE)), TYPE);
        runs("UNBOUND is ahead: CALL", deep(12, call(1, NONE, NONE)), UNBOUND);
        runs("its parts are ahead", deep(12, apply(fun(0, one), stay(0, num(5)))), DEPTH);
        due("its parts are ahead", x.register(0), 5);
        fresh();
        x.define(0, 0, num(1), NONE);
        x.define(1, 1, insert(2), NONE);
        int inserts = insert(3);
        runs("INSERT without a hook", deep(12, inserts), 3);
        x.run(hook(2));
        runs("UNBOUND is ahead: the hook", deep(12, inserts), UNBOUND);
        x.run(hook(0));
        runs("TYPE is ahead: the hook", deep(12, inserts), TYPE);
        x.run(hook(1));
        text("the letters", 0, "d");
        runs("INSERT within the hook, at 12", deep(11, inserts), 3);
        text("INSERT within the hook, at 12", 0, "ddc");
        runs("the letter stands", attempt(0, deep(12, inserts), name(0)), -5);
        text("the letter stands", 0, "ddcd");
    }

    private static void upToWhereItEnds() {
        int one = num(1), caught = name(0), fits = deep(12, one), beyond = deep(13, one);
        runs("behind DEPTH there is room again", then(attempt(0, beyond, num(1)), fits), 1);
        runs("one behind the other", then(fits, fits), 1);
        runs("at rest they are not active", then(let(0, gen(then(yielded(one), yielded(num(6))))), ask(caught), deep(11, ask(caught))), 6);
        runs("an error ends them", then(attempt(0, deep(12, fail(2)), num(1)), fits), 1);
        runs("RETURN ends them", then(deep(12, back(num(3))), fits), 1);
        fresh();
        one = num(1);
        int eleven = deep(11, stay(0, num(6))), twelve = deep(12, stay(1, num(7))), thirteen = deep(13, num(8));
        runs("what asks is active as long as the body is done", ask(gen(eleven)), -1);
        due("11 within one", x.register(0), 6);
        runs("what asks is active as long as the body is done", ask(gen(twelve)), DEPTH);
        runs("closing is not active", ask(gen(last(yielded(one), twelve))), 1);
        due("12 within that", x.register(1), 7);
        runs("closing is not active, but 13 are too many", ask(gen(last(yielded(one), thirteen))), DEPTH);
        due("12 in the trace", x.traced(), 13);
        x.setBudget(60);
        runs("BUDGET within calls", deep(12, loop(0, one)), BUDGET);
        x.setBudget(300);
        due("BUDGET ends them", x.run(twelve), 7);
        closingIsNotActive();
        x.start(eleven);
        int most = 0, least = 99;
        for (int turn = 0; turn < 100 && x.next() != NONE; turn++) {
            most = Math.max(most, x.active());
            least = Math.min(least, x.active());
            x.step(1);
        }
        due("most at once", most, 11);
        due("least at once", least, 0);
    }

    private static void closingIsNotActive() {
        Macroloom kept = x;
        fresh();
        int one = num(1), marks = stay(0, num(6)), asked = ask(name(0)), other = ask(name(1));
        int first = let(0, gen(last(yielded(one), one))), second = let(1, gen(last(yielded(one), deep(12, marks))));
        runs("12 within the second one that is closed", then(first, second, asked, other), 1);
        due("12 within the second one that is closed", x.register(0), 6);
        int third = let(1, gen(last(yielded(one), deep(13, marks))));
        runs("13 are too many there", then(first, third, asked, other), DEPTH);
        fresh();
        one = num(1);
        int inner = ask(gen(last(yielded(one), deep(12, stay(0, num(6))))));
        runs("behind what is run, an ASK by itself", ask(gen(then(inner, num(2)))), -1);
        due("behind what is run, an ASK by itself", x.register(0), 6);
        x = kept;
    }

    private static void standardAheadOfDepth() {
        int marks = stay(0, num(5)), second = name(1);
        x.define(0, 2, second, marks);
        int calls = call(0, NONE, NONE);
        runs("11 are active", deep(11, calls), 5);
        x.run(stay(0, num(0)));
        runs("12 are active", deep(12, calls), DEPTH);
        due("the standard was done", x.register(0), 5);
        due("CALL itself", x.traceAt(0), calls);
        x.define(1, 0, num(6), NONE);
        int inner = call(1, NONE, NONE);
        x.define(2, 2, second, inner);
        int outer = call(2, NONE, NONE);
        runs("a call by a standard, as the 12th", deep(11, outer), 6);
        runs("a call by a standard, as the 13th", deep(12, outer), DEPTH);
        due("the call by the standard", x.traceAt(0), inner);
        due("its CALL is not active yet", x.traced(), 13);
        x.define(3, 2, second, fail(7));
        runs("an error of the standard", deep(12, call(3, NONE, NONE)), ERROR + 7);
        fresh();
        x.define(4, 2, num(1), num(2));
        int none = call(4, NONE, NONE);
        x.define(4, 2, name(1), none);
        x.setBudget(100);
        runs("standards are not active, so only the budget ends them", none, BUDGET);
        trace("standards are not active", none);
    }
}
