import java.util.ArrayList;
import java.util.List;

/** Promises 24 to 26 and section 10, sentence by sentence: undo, images, the order of exceptions. */
final class ChangeSentences extends Sentence {
    private static final String SECTION = "Section 10";
    private static final Calls BOTH_IMAGES = then(FURNISHED, work -> work.image(1));

    private ChangeSentences() { }

    static void all() {
        restore();
        undo();
        image();
        everyChangeCounts();
        otherCallsDoNotCount();
        constants();
        refusedCallsAreNoChanges();
        eightChanges();
        whatIsKept();
        whatIsKeptOfOtherWorks();
        whatIsNotKept();
        exceptionsByKind();
        calls512();
    }

    private static void restore() {
        named("Promise 24", "Brings an image back.");
        answers(FURNISHED, work -> work.restore(0) + 10 * work.lines(1) + 100 * work.open(), 5 + 20);

        named("Promise 24", "`image`: 0 or 1");
        range(INDEX, BOTH_IMAGES, Chainwork::restore, 0, 5, 1, 5);

        named("Promise 24", "Returns how many laws there are then.");
        answers(TWENTY_LAWS, work -> work.restore(0), 5);
        answers(then(TWENTY_LAWS, work -> work.image(1)), work -> work.restore(0) + 100 * work.restore(1), 2005);
        answers(work -> work.image(1), work -> work.restore(1), 0);

        named("Promise 24", "Throws `IndexOutOfBoundsException` see section 10");
        refuses(INDEX, NOTHING, work -> work.restore(2));

        named("Promise 24", "Throws `IllegalStateException` if no image was kept there");
        refuses(STATE, FURNISHED, work -> work.restore(1));
        answers(BOTH_IMAGES, work -> work.restore(1), 5);
        refuses(STATE, work -> work.image(1), work -> work.restore(0));
    }

    private static Calls variables(int count) {
        return work -> {
            for (int i = 0; i < count; i++) {
                work.variable(0, i % 2);
            }
        };
    }

    private static void undo() {
        named("Promise 25", "Undoes the latest change that was not undone.");
        answers(variables(2), work -> work.undo() + 10 * work.termAt(0, 2), 11);
        answers(variables(3), work -> work.undo() + work.undo() + 10 * work.termAt(0, 2), 3 + 10);
        Calls undoneAndChanged = work -> {
            variables(3).on(work);
            work.undo();
            work.variable(0, 3);
        };
        answers(undoneAndChanged, work -> work.undo() * 10 + work.termAt(0, 2), 22);
        answers(undoneAndChanged, work -> work.undo() + work.undo() * 10 + work.termAt(0, 2), 2 + 10 + 1);

        named("Promise 25", "Returns how many changes can still be undone.");
        answers(variables(1), Chainwork::undo, 0);
        answers(variables(8), Chainwork::undo, 7);
        answers(variables(9), Chainwork::undo, 7);

        named("Promise 25", "Throws `IllegalStateException` if there is none");
        refuses(STATE, NOTHING, Chainwork::undo);
        refuses(STATE, then(variables(1), Chainwork::undo), Chainwork::undo);
        refuses(STATE, then(variables(20), work -> undoTimes(work, 8)), Chainwork::undo);
        answers(then(variables(20), work -> undoTimes(work, 7)), Chainwork::undo, 0);
    }

    private static void undoTimes(Chainwork work, int count) {
        for (int i = 0; i < count; i++) {
            work.undo();
        }
    }

    private static void image() {
        named("Promise 26", "Keeps an image, in place of one that is there.");
        answers(then(FURNISHED, work -> {
            work.variable(9, 0);
            work.image(0);
            work.variable(9, 1);
        }), work -> work.restore(0) + 10 * work.termAt(9, 2), 15);

        named("Promise 26", "`image`: 0 or 1");
        range(INDEX, NOTHING, (work, image) -> work.image(image) ? 1 : 0, 0, 0, 1, 0);
        answers(then(BOTH_IMAGES, work -> work.variable(9, 0)), work -> work.restore(0) + work.restore(1) + work.termAt(9, 0), 9);

        named("Promise 26", "Returns whether there was one.");
        holds(FURNISHED, work -> work.image(0));
        fails(FURNISHED, work -> work.image(1));
        holds(BOTH_IMAGES, work -> work.image(1));
        holds(then(FURNISHED, Chainwork::undo), work -> work.image(0));

        named("Promise 26", "Throws `IndexOutOfBoundsException` see section 10");
        refuses(INDEX, FURNISHED, work -> work.image(2));
        refuses(INDEX, FURNISHED, work -> work.image(-1));
    }

    /** Calls of each change that are not refused in a furnished work whose text is p(a). */
    private static final List<Calls> OF_TERMS = List.of(
        work -> work.sign(0, 0, 0), work -> work.variable(0, 3), work -> work.variable(0, 0), work -> work.term(2, 0, 0, 0),
        work -> work.term(9, 1, 3, 2), work -> work.read(2), work -> work.read(9), work -> work.part(2, 0, 2),
        work -> work.part(7, 1, 0));
    private static final List<Calls> OF_LAWS = List.of(
        work -> work.law(50, 0, LESS, 0), work -> work.condition(31, 0, 1), work -> work.condition(3, 0, 2),
        work -> work.equivalence(50, 0, 0, 1, 0), work -> work.assume(0, 0), Chainwork::giveUp, work -> work.end(50, 1),
        work -> work.lemma(50, 0), work -> work.cases(50, 31, 32), work -> work.across(50, 3, 40, true));
    private static final List<Calls> OF_CHAINS = List.of(
        work -> work.begin(1, 0), work -> work.begin(2, 4), work -> work.line(0, 3, 2), work -> work.step(0, 3, 3),
        work -> work.turn(2), work -> work.turn(0), work -> work.join(1, 1, 1), work -> work.join(0, 0, 3),
        work -> work.cut(1, 0, 0, 1), work -> work.cut(0, 1, 2, 0), work -> work.take(1, 0, 0), work -> work.take(0, 1, 1),
        work -> work.find(1, 0, 0, EQUAL, 0), work -> work.find(0, 0, 2, LESS, 1));
    private static final List<Calls> OF_IMAGES = List.of(work -> work.restore(0), work -> work.restore(1));
    private static final Calls READABLE = then(FURNISHED, work -> {
        work.type(')');
        work.image(1);
    });
    /** A furnished work whose latest 8 changes made nothing different. */
    private static final Calls CALM = then(READABLE, work -> {
        for (int i = 0; i < 8; i++) {
            work.turn(2);
        }
    });
    private static final Calls FIVE_LEFT = then(CALM, work -> undoTimes(work, 3));

    private static List<Calls> changes() {
        List<Calls> all = new ArrayList<>(OF_TERMS);
        all.addAll(OF_LAWS);
        all.addAll(OF_CHAINS);
        all.addAll(OF_IMAGES);
        return all;
    }

    private static void everyChangeCounts() {
        named(SECTION, "The calls under \"Changes\" are changes if they throw no exception, even if nothing is different afterwards.");
        answers(FIVE_LEFT, Chainwork::undo, 4);
        for (Calls change : changes()) {
            answers(then(CALM, change), Chainwork::undo, 7);
        }
        none(STATE, then(CALM, work -> undoTimes(work, 8)), (work, ignored) -> work.undo(), 0);

        named(SECTION, "Ahead of the calls `sign`, `variable`, `term`, `read`, `part` the interface says: ---- Changes: signs, terms.");
        leave(5, OF_TERMS);
        named(SECTION, "Ahead of the calls `law`, `condition`, `equivalence`, `assume`, `giveUp`, `end`, `lemma`, `cases`, `across` "
            + "the interface says: ---- Changes: laws.");
        leave(5, OF_LAWS);
        named(SECTION, "Ahead of the calls `begin`, `line`, `step`, `turn`, `join`, `cut`, `take`, `find` the interface says: "
            + "---- Changes: chains.");
        leave(5, OF_CHAINS);
        named(SECTION, "Ahead of the calls `restore`, `undo` the interface says: ---- Changes: images.");
        leave(5, OF_IMAGES);
        leave(3, List.of(Chainwork::undo));
    }

    private static void otherCallsDoNotCount() {
        named(SECTION, "Ahead of the calls `image`, `type`, `clearText`, `errorPlace`, `write`, `writeLaw`, `outputAt` the interface says: "
            + "---- images, texts.");
        leave(4, List.of(work -> work.image(1), work -> work.type('a'), Chainwork::clearText, Chainwork::errorPlace,
            work -> work.write(0), work -> work.writeLaw(3), work -> work.outputAt(0)));
        named(SECTION, "Ahead of the calls `signs`, `termAt`, `areSame`, `direction`, `laws`, `lawAt`, `rests`, `open` the interface says: "
            + "---- terms, laws.");
        leave(4, List.of(Chainwork::signs, work -> work.termAt(0, 0), work -> work.areSame(0, 1), work -> work.direction(0, 0),
            Chainwork::laws, work -> work.lawAt(3, 0), work -> work.rests(20, 7), Chainwork::open));
        named(SECTION, "Ahead of the calls `lines`, `wrong`, `relation`, `stepAt`, `needs` the interface says: ---- chains.");
        leave(4, List.of(work -> work.lines(0), work -> work.wrong(0), work -> work.relation(0), work -> work.stepAt(0, 1, 4),
            work -> work.needs(0)));
        named(SECTION, "Ahead of the calls `orders`, `fails`, `value` the interface says: ---- small orders.");
        leave(4, List.of(Chainwork::orders, work -> work.fails(0, EQUAL, 1, 0), work -> work.value(0, 0, 0)));
        named(SECTION, "Ahead of the calls `meanLines`, `provedShare`, `checksum`, `errors` the interface says: ---- measures.");
        leave(4, List.of(Chainwork::meanLines, Chainwork::provedShare, Chainwork::checksum, Chainwork::errors));
    }

    /** With five changes left to be undone: how many there are left after each of the calls and undo. */
    private static void leave(int due, List<Calls> calls) {
        for (Calls call : calls) {
            answers(then(FIVE_LEFT, call), Chainwork::undo, due);
        }
    }

    private static void constants() {
        named(SECTION, "The constants: `NONE = -1`: There is none.");
        answers(NOTHING, work -> Chainwork.NONE, -1);
        named(SECTION, "`RISES = 0, FALLS = 1, MIXED = 2`: Directions of places.");
        answers(NOTHING, work -> Chainwork.RISES * 100 + Chainwork.FALLS * 10 + Chainwork.MIXED, 12);
        named(SECTION, "`EQUAL = 0, LESS = 1, MORE = 2`: Relations.");
        answers(NOTHING, work -> Chainwork.EQUAL * 100 + Chainwork.LESS * 10 + Chainwork.MORE, 12);
    }

    private static void refusedCallsAreNoChanges() {
        named(SECTION, "If several exceptions apply to a call, the one that is listed first is thrown; "
            + "a call that throws an exception changes nothing.");
        refuses(ARGUMENT, FOUR_SIGNS, work -> work.sign(-1, 3, 3));
        refuses(INDEX, FURNISHED, work -> work.variable(-1, -1));
        refuses(ARGUMENT, TWENTY_LAWS, work -> work.law(-1, -1, -1, -1));
        refuses(INDEX, TWENTY_LAWS, work -> work.law(3, 9, LESS, -1));
        refuses(ELEMENT, FURNISHED, work -> work.condition(-1, 9, -1));
        refuses(INDEX, FURNISHED, work -> work.condition(20, 8, -1));
        refuses(STATE, FURNISHED, work -> work.condition(20, 8, 8));
        refuses(ARGUMENT, FURNISHED, work -> work.condition(31, 8, 8));
        refuses(ARGUMENT, NOTHING, work -> work.end(-1, -1));
        refuses(INDEX, NOTHING, work -> work.end(0, -1));
        refuses(ELEMENT, NOTHING, work -> work.end(0, 0));
        refuses(INDEX, FURNISHED, work -> work.step(-1, -1, 9));
        refuses(ELEMENT, FURNISHED, work -> work.step(2, -1, 9));
        refuses(STATE, FURNISHED, work -> work.step(2, 3, 9));
        refuses(INDEX, FURNISHED, work -> work.find(-1, 9, 9, -1, -1));
        refuses(ARGUMENT, FURNISHED, work -> work.find(0, 9, 9, -1, -1));
        refuses(STATE, FURNISHED, work -> work.find(0, 9, 9, 0, 0));
        refuses(INDEX, NOTHING, work -> work.fails(-1, -1, 0, -1));
        refuses(STATE, NOTHING, work -> work.fails(0, -1, 0, -1));
        refuses(ARGUMENT, FURNISHED, work -> work.fails(0, -1, 0, -1));
    }

    private static void eightChanges() {
        named(SECTION, "The latest 8 changes can be undone");
        answers(CALM, work -> {
            undoTimes(work, 7);
            return work.undo();
        }, 0);
        refuses(STATE, then(CALM, work -> undoTimes(work, 8)), Chainwork::undo);
        for (int number = 1; number <= 8; number++) {
            int count = number;
            answers(NOTHING, work -> {
                variables(19 - count).on(work);
                for (int i = 0; i < count; i++) {
                    work.sign(0, 0, 0);
                    work.undo();
                    work.variable(0, 3);
                }
                undoTimes(work, count);
                return work.termAt(0, 2);
            }, (19 - count) % 2 == 1 ? 1 : 2);
        }
        // the ninth change is out of reach, even if later ones were undone and done again
        Calls redone = then(CALM, work -> {
            undoTimes(work, 4);
            work.turn(2);
            work.turn(2);
        });
        answers(redone, work -> {
            undoTimes(work, 5);
            return work.undo();
        }, 0);
        refuses(STATE, then(redone, work -> undoTimes(work, 6)), Chainwork::undo);
    }

    private static void whatIsKept() {
        named(SECTION, "an image keeps signs, term registers, laws, equivalences, assumptions and chains "
            + "(which is all that undo() and restore() bring back, images, the text and the output aside).");
        for (Calls change : changes()) {
            keepsAll(READABLE, then(then(READABLE, change), Chainwork::undo));
            keepsAll(READABLE, then(then(READABLE, change), work -> work.restore(1)));
            Calls undoneRestore = then(READABLE, then(change, work -> {
                work.restore(0);
                work.undo();
            }));
            keepsAll(then(READABLE, change), undoneRestore);
        }
    }

    private static void whatIsKeptOfOtherWorks() {
        named(SECTION, "an image keeps signs, term registers, laws, equivalences, assumptions and chains");
        Calls first = work -> {
            work.sign(1, FALLS, 0);
            work.sign(0, 0, 0);
            Due.law(work, 0, "p(a)", EQUAL, "q");
            Due.law(work, 99, "p(a)", LESS, "a");
            work.equivalence(50, 8, 9, 9, 8);
            Due.assume(work, "a", "p(a)");
            Due.begin(work, 3, "p(a)");
            Due.line(work, 3, 0, "q");
        };
        Calls other = work -> {
            work.sign(2, MIXED, RISES);
            work.sign(1, MIXED, 0);
            Due.law(work, 0, "p(a,b)", LESS, "q(a)");
            work.variable(1, 1);
            work.equivalence(50, 8, 8, 1, 1);
            Due.assume(work, "p(a,a)", "a");
            Due.begin(work, 3, "p(a,b)");
            Due.line(work, 3, 0, "b");
        };
        Calls both = work -> {
            work.image(1);
            first.on(work);
            work.orders();
            work.image(0);
            work.restore(1);
            other.on(work);
            work.orders();
        };
        keepsAll(first, then(both, work -> work.restore(0)));
        keepsAll(NOTHING, then(both, work -> work.restore(1)));
        keepsAll(other, then(both, work -> {
            work.restore(0);
            work.orders();
            work.undo();
        }));
        answers(then(both, work -> work.restore(0)), work -> work.across(51, 99, 50, true), 3);
        answers(then(both, work -> work.restore(0)), work -> Due.read(work, 0, "p(q)") + 10 * work.direction(0, 1), 2 + 10 * FALLS);
        answers(both, work -> Due.read(work, 0, "p(q(a),a)"), 4);
    }

    /** What an image keeps is the same in both. */
    private static void keepsAll(Calls due, Calls got) {
        for (int part = 0; part < Looks.PARTS; part++) {
            if (Looks.isKept(part)) {
                Due.text("Section 10: what an image keeps", Looks.at(made(got), part), Looks.at(made(due), part));
            }
        }
    }

    private static void whatIsNotKept() {
        named(SECTION, "images, the text and the output aside");
        Calls later = then(FURNISHED, work -> {
            work.variable(9, 0);
            work.image(1);
            Due.type(work, "c");
            work.write(9);
        });
        for (Calls back : List.<Calls>of(Chainwork::undo, work -> work.restore(0), work -> work.restore(1))) {
            Calls brought = then(later, back);
            answers(brought, Chainwork::clearText, 1);
            answers(brought, work -> work.outputAt(0), 'a');
            refuses(ELEMENT, brought, work -> work.outputAt(1));
            answers(brought, work -> work.restore(1) + work.termAt(9, 0), 6);
            holds(brought, work -> work.image(1));
        }
    }

    private static void exceptionsByKind() {
        named(SECTION, "An IndexOutOfBoundsException is thrown for a register, sign, chain, image or step that is not there, "
            + "a NoSuchElementException for a law, equivalence or assumption that is not there, "
            + "an IllegalStateException for a register that is empty or a chain without a line, "
            + "an IllegalArgumentException for other numbers out of range.");
        refuses(INDEX, FURNISHED, work -> work.write(10));
        refuses(INDEX, FURNISHED, work -> work.term(9, 3, 0, 0));
        refuses(INDEX, FURNISHED, work -> work.lines(4));
        refuses(INDEX, FURNISHED, work -> work.image(2));
        refuses(INDEX, FURNISHED, work -> work.stepAt(0, 3, 0));
        refuses(ELEMENT, FURNISHED, work -> work.lawAt(4, 0));
        refuses(ELEMENT, FURNISHED, work -> work.across(50, 3, 41, true));
        refuses(ELEMENT, FURNISHED, work -> work.step(1, 101, 0));
        refuses(STATE, FURNISHED, work -> work.write(9));
        refuses(STATE, FURNISHED, work -> work.line(2, 3, 0));
        refuses(ARGUMENT, FURNISHED, work -> work.value(65536, 0, 0));
        refuses(ARGUMENT, FURNISHED, work -> work.termAt(0, 4));
    }

    private static void calls512() {
        named("What it is", "An object is used for at most 512 calls after it has been made; what later calls answer is free.");
        answers(variables(511), Chainwork::undo, 7);
        answers(variables(511), work -> work.variable(9, 0), 2);
        answers(work -> {
            work.variable(0, 0);
            for (int pair = 0; pair < 255; pair++) {
                work.type(' ');
                work.clearText();
            }
        }, work -> work.write(0), 1);
    }
}
