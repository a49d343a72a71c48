/** Promises 7 to 11 and 37 to 40, sentence by sentence: laws, conditions, equivalences, assumptions. */
final class LawSentences extends Sentence {
    private static final Calls LAWS_0_AND_99 = then(FURNISHED, work -> {
        work.law(0, 3, EQUAL, 2);
        work.law(99, 3, LESS, 4);
    });
    private static final Calls THREE_EQUIVALENCES = then(FURNISHED, work -> {
        work.equivalence(0, 0, 0, 0, 0);
        work.equivalence(99, 0, 0, 0, 0);
    });
    private static final Calls FOUR_EQUIVALENCES = then(THREE_EQUIVALENCES, work -> work.equivalence(50, 0, 0, 0, 0));
    private static final Calls THREE_ASSUMPTIONS = then(FURNISHED, work -> {
        work.assume(0, 1);
        work.assume(1, 0);
    });

    private LawSentences() { }

    static void all() {
        lawsArguments();
        lawsExceptions();
        conditionsArguments();
        conditionsExceptions();
        equivalencesArguments();
        equivalencesExceptions();
        assume();
        giveUp();
        laws();
        lawAt();
        lawAtLeast();
        rests();
        open();
    }

    private static void lawsArguments() {
        named("Promise 7", "Tells a law.");
        writes(FURNISHED, work -> {
            work.law(50, 7, LESS, 5);
            return work.writeLaw(50);
        }, "q(p(a),b)<r");

        named("Promise 7", "`name`: 0 to 99");
        range(ARGUMENT, FURNISHED, (work, name) -> work.law(name, 0, EQUAL, 1), 0, 6, 99, 6);

        named("Promise 7", "`left`: a register");
        range(INDEX, FILLED, (work, left) -> work.law(50, left, EQUAL, 1), 0, 6, 9, 6);

        named("Promise 7", "`relation`: EQUAL or LESS");
        range(ARGUMENT, FURNISHED, (work, relation) -> work.law(50, 0, relation, 1), EQUAL, 6, LESS, 6);

        named("Promise 7", "`right`: a register");
        range(INDEX, FILLED, (work, right) -> work.law(50, 1, EQUAL, right), 0, 6, 9, 6);

        named("Promise 7", "Returns how many laws there are then.");
        answers(work -> work.variable(0, 0), work -> work.law(50, 0, EQUAL, 0), 1);
        answers(NINETEEN_LAWS, work -> work.law(50, 0, EQUAL, 0), 20);
    }

    private static void lawsExceptions() {
        named("Promise 7", "Throws `IllegalArgumentException` if name or relation is out of range");
        refuses(ARGUMENT, FURNISHED, work -> work.law(100, 10, EQUAL, 9));
        refuses(ARGUMENT, FURNISHED, work -> work.law(3, 10, MORE, 9));

        named("Promise 7", "Throws `IndexOutOfBoundsException` see section 10");
        refuses(INDEX, FURNISHED, work -> work.law(3, 10, EQUAL, 9));
        refuses(INDEX, TWENTY_LAWS, work -> work.law(3, 9, EQUAL, 10));

        named("Promise 7", "Throws `IllegalStateException` if a register is empty");
        refuses(STATE, FURNISHED, work -> work.law(50, 9, EQUAL, 0));
        refuses(STATE, FURNISHED, work -> work.law(50, 0, EQUAL, 9));
        answers(FILLED, work -> work.law(50, 9, EQUAL, 9), 6);

        named("Promise 7", "a law or equivalence has this name");
        none(STATE, FURNISHED, (work, name) -> work.law(name, 0, EQUAL, 1), 3, 7, 20, 31, 32, 40);
        none(STATE, LAWS_0_AND_99, (work, name) -> work.law(name, 0, EQUAL, 1), 0, 99);
        none(STATE, THREE_EQUIVALENCES, (work, name) -> work.law(name, 0, EQUAL, 1), 0, 99);
        answers(FURNISHED, work -> work.law(39, 0, EQUAL, 1), 6);

        named("Promise 7", "or there are 20 laws");
        answers(NINETEEN_LAWS, work -> work.law(0, 0, EQUAL, 1), 20);
        refuses(STATE, TWENTY_LAWS, work -> work.law(0, 0, EQUAL, 1));
    }

    private static void conditionsArguments() {
        named("Promise 8", "Gives a told law on which no law rests a condition, in place of the one that it has.");
        writes(FURNISHED, work -> {
            work.condition(31, 2, 5);
            return work.writeLaw(31);
        }, "q(a,b)<p(a);p(a)<r");

        named("Promise 8", "`name`: a law");
        none(ELEMENT, FURNISHED, (work, name) -> work.condition(name, 0, 0) ? 1 : 0, -1, 0, 4, 40, 99, 100, LOWEST, HIGHEST);
        range(ELEMENT, LAWS_0_AND_99, (work, name) -> work.condition(name, 0, 0) ? 1 : 0, 0, 0, 99, 0);

        Calls withB = then(FURNISHED, work -> work.variable(9, 1));
        named("Promise 8", "`first`: a register");
        range(INDEX, withB, (work, first) -> work.condition(31, first, 0) ? 1 : 0, 0, 1, 9, 1);

        named("Promise 8", "`second`: a register");
        range(INDEX, withB, (work, second) -> work.condition(31, 0, second) ? 1 : 0, 0, 1, 9, 1);

        named("Promise 8", "Returns whether it had a condition.");
        fails(FURNISHED, work -> work.condition(3, 0, 0));
        holds(FURNISHED, work -> work.condition(31, 0, 0));
        holds(then(FURNISHED, work -> work.condition(3, 0, 0)), work -> work.condition(3, 0, 2));
        holds(TWENTY_LAWS, work -> work.condition(31, 0, 0) && work.laws() == 20);
    }

    private static void conditionsExceptions() {
        named("Promise 8", "Throws `NoSuchElementException` see section 10");
        refuses(ELEMENT, FURNISHED, work -> work.condition(4, 10, 9));
        refuses(ELEMENT, FURNISHED, work -> work.condition(40, 9, 8));

        named("Promise 8", "Throws `IndexOutOfBoundsException` see section 10");
        refuses(INDEX, FURNISHED, work -> work.condition(20, 9, 10));
        refuses(INDEX, FURNISHED, work -> work.condition(7, 10, 9));

        named("Promise 8", "Throws `IllegalStateException` if a register is empty");
        refuses(STATE, FURNISHED, work -> work.condition(3, 9, 8));
        refuses(STATE, FURNISHED, work -> work.condition(3, 8, 9));
        fails(then(FURNISHED, work -> work.variable(9, 0)), work -> work.condition(3, 9, 9));

        named("Promise 8", "the law was proved");
        refuses(STATE, FURNISHED, work -> work.condition(20, 8, 8));
        refuses(STATE, FURNISHED, work -> work.condition(20, 0, 0));

        named("Promise 8", "or a law rests on it");
        refuses(STATE, FURNISHED, work -> work.condition(7, 8, 8));
        refuses(STATE, FURNISHED, work -> work.condition(7, 0, 0));
        fails(FURNISHED, work -> work.condition(3, 0, 0));
        for (int number : new int[] {0, 50, 99}) {
            int name = number;
            refuses(STATE, then(FURNISHED, work -> work.lemma(name, 0)), work -> work.condition(3, 0, 0));
        }
        Calls undone = then(FURNISHED, work -> {
            work.lemma(50, 0);
            work.undo();
        });
        fails(undone, work -> work.condition(3, 0, 0));

        named("Promise 8", "Throws `IllegalArgumentException` if a variable of the condition stands in none of its terms");
        refuses(ARGUMENT, FURNISHED, work -> work.condition(31, 8, 0));
        refuses(ARGUMENT, FURNISHED, work -> work.condition(31, 0, 8));
        refuses(ARGUMENT, FURNISHED, work -> work.condition(3, 0, 4));
        holds(FURNISHED, work -> work.condition(31, 4, 6));
        Calls rightOnly = then(FURNISHED, work -> work.law(50, 0, LESS, 6));
        fails(rightOnly, work -> work.condition(50, 1, 0));
        refuses(ARGUMENT, rightOnly, work -> work.condition(50, 1, 8));
    }

    private static void equivalencesArguments() {
        named("Promise 9", "Tells an equivalence.");
        answers(FURNISHED, work -> work.equivalence(50, 0, 1, 1, 0) + work.orders(), 2);

        named("Promise 9", "`name`: 0 to 99");
        range(ARGUMENT, FURNISHED, (work, name) -> work.equivalence(name, 0, 0, 0, 0), 0, 2, 99, 2);

        named("Promise 9", "`first`: a register, the first term of the left line");
        range(INDEX, FILLED, (work, first) -> work.equivalence(50, first, 0, 0, 0), 0, 2, 9, 2);
        writes(work -> acrossToLeft(work), work -> work.writeLaw(60), "a<b");

        named("Promise 9", "`second`: a register, the second term of the left line");
        range(INDEX, FILLED, (work, second) -> work.equivalence(50, 0, second, 0, 0), 0, 2, 9, 2);
        writes(work -> acrossToLeft(work), work -> work.writeLaw(60), "a<b");

        named("Promise 9", "`third`: a register, the first term of the right line");
        range(INDEX, FILLED, (work, third) -> work.equivalence(50, 0, 0, third, 0), 0, 2, 9, 2);
        writes(work -> acrossToRight(work), work -> work.writeLaw(60), "p(a)<p(b)");

        named("Promise 9", "`fourth`: a register, the second term of the right line");
        range(INDEX, FILLED, (work, fourth) -> work.equivalence(50, 0, 0, 0, fourth), 0, 2, 9, 2);
        writes(work -> acrossToRight(work), work -> work.writeLaw(60), "p(a)<p(b)");

        named("Promise 9", "Returns how many equivalences there are then.");
        answers(work -> work.variable(0, 0), work -> work.equivalence(50, 0, 0, 0, 0), 1);
        answers(THREE_EQUIVALENCES, work -> work.equivalence(50, 0, 0, 0, 0), 4);
    }

    /** An equivalence a < b just if p(a) < p(b), and a law across it. */
    private static void acrossToLeft(Chainwork work) {
        FURNISHED.on(work);
        work.equivalence(50, 0, 1, 2, 6);
        work.law(59, 2, LESS, 6);
        work.across(60, 59, 50, false);
    }

    private static void acrossToRight(Chainwork work) {
        FURNISHED.on(work);
        work.equivalence(50, 0, 1, 2, 6);
        work.law(59, 0, LESS, 1);
        work.across(60, 59, 50, true);
    }

    private static void equivalencesExceptions() {
        named("Promise 9", "Throws `IllegalArgumentException` if name is out of range");
        refuses(ARGUMENT, FURNISHED, work -> work.equivalence(100, 10, 9, 9, 9));
        refuses(ARGUMENT, FOUR_EQUIVALENCES, work -> work.equivalence(-1, 10, 9, 9, 9));

        named("Promise 9", "Throws `IndexOutOfBoundsException` see section 10");
        refuses(INDEX, FURNISHED, work -> work.equivalence(40, 10, 9, 9, 9));
        refuses(INDEX, FURNISHED, work -> work.equivalence(40, 9, 10, 9, 9));
        refuses(INDEX, FURNISHED, work -> work.equivalence(40, 9, 9, 10, 9));
        refuses(INDEX, FOUR_EQUIVALENCES, work -> work.equivalence(40, 9, 9, 9, 10));

        named("Promise 9", "Throws `IllegalStateException` if a register is empty");
        refuses(STATE, FURNISHED, work -> work.equivalence(50, 9, 0, 0, 0));
        refuses(STATE, FURNISHED, work -> work.equivalence(50, 0, 9, 0, 0));
        refuses(STATE, FURNISHED, work -> work.equivalence(50, 0, 0, 9, 0));
        refuses(STATE, FURNISHED, work -> work.equivalence(50, 0, 0, 0, 9));
        answers(FILLED, work -> work.equivalence(50, 9, 9, 9, 9), 2);

        named("Promise 9", "a law or equivalence has this name");
        none(STATE, FURNISHED, (work, name) -> work.equivalence(name, 0, 0, 0, 0), 3, 7, 20, 31, 32, 40);
        none(STATE, THREE_EQUIVALENCES, (work, name) -> work.equivalence(name, 0, 0, 0, 0), 0, 99);
        none(STATE, LAWS_0_AND_99, (work, name) -> work.equivalence(name, 0, 0, 0, 0), 0, 99);
        answers(FURNISHED, work -> work.equivalence(41, 0, 0, 0, 0), 2);

        named("Promise 9", "or there are 4");
        answers(THREE_EQUIVALENCES, work -> work.equivalence(41, 0, 0, 0, 0), 4);
        refuses(STATE, FOUR_EQUIVALENCES, work -> work.equivalence(41, 0, 0, 0, 0));
        answers(TWENTY_LAWS, work -> work.equivalence(41, 0, 0, 0, 0), 2);
    }

    private static void assume() {
        named("Promise 10", "Opens an assumption.");
        answers(FURNISHED, work -> work.assume(0, 1) + work.open(), 103);

        named("Promise 10", "`first`: a register");
        range(INDEX, FILLED, (work, first) -> work.assume(first, 0), 0, 101, 9, 101);

        named("Promise 10", "`second`: a register");
        range(INDEX, FILLED, (work, second) -> work.assume(0, second), 0, 101, 9, 101);

        named("Promise 10", "Returns its name.");
        answers(work -> work.variable(0, 0), work -> work.assume(0, 0), 100);
        answers(FURNISHED, work -> work.assume(0, 0), 101);
        answers(FURNISHED, work -> work.assume(0, 0) + work.assume(0, 0), 203);

        named("Promise 10", "Throws `IndexOutOfBoundsException` see section 10");
        refuses(INDEX, THREE_ASSUMPTIONS, work -> work.assume(9, 10));
        refuses(INDEX, THREE_ASSUMPTIONS, work -> work.assume(10, 9));

        named("Promise 10", "Throws `IllegalStateException` if a register is empty");
        refuses(STATE, FURNISHED, work -> work.assume(9, 0));
        refuses(STATE, FURNISHED, work -> work.assume(0, 9));
        answers(FILLED, work -> work.assume(9, 9), 101);

        named("Promise 10", "or 3 are open");
        answers(then(FURNISHED, work -> work.assume(0, 1)), work -> work.assume(0, 1), 102);
        refuses(STATE, THREE_ASSUMPTIONS, work -> work.assume(0, 1));
        answers(then(THREE_ASSUMPTIONS, Chainwork::giveUp), work -> work.assume(0, 1), 102);
    }

    private static void giveUp() {
        Calls stepsBy101 = then(THREE_ASSUMPTIONS, work -> {
            work.begin(2, 0);
            work.line(2, 101, 1);
        });
        named("Promise 11", "Gives the latest assumption up: it is open no more.");
        answers(stepsBy101, work -> work.giveUp() * 10 + work.relation(2), 20 + LESS);
        answers(stepsBy101, work -> work.giveUp() + work.giveUp() * 10 + work.relation(2), 12 + NONE);

        named("Promise 11", "Returns how many are open then.");
        answers(THREE_ASSUMPTIONS, Chainwork::giveUp, 2);
        answers(FURNISHED, Chainwork::giveUp, 0);

        named("Promise 11", "Throws `NoSuchElementException` if none is open");
        refuses(ELEMENT, then(FURNISHED, Chainwork::giveUp), Chainwork::giveUp);
        refuses(ELEMENT, NOTHING, Chainwork::giveUp);
    }

    private static void laws() {
        named("Promise 37", "Counts the laws.");
        answers(FURNISHED, Chainwork::laws, 5);

        named("Promise 37", "Returns 0 to 20.");
        answers(NOTHING, Chainwork::laws, 0);
        answers(TWENTY_LAWS, Chainwork::laws, 20);
    }

    private static void lawAt() {
        named("Promise 38", "Tells about a law.");
        answers(FURNISHED, work -> work.lawAt(3, 0), EQUAL);

        named("Promise 38", "`name`: a law");
        none(ELEMENT, FURNISHED, (work, name) -> work.lawAt(name, 0), -1, 0, 4, 40, 99, 100, LOWEST, HIGHEST);
        range(ELEMENT, LAWS_0_AND_99, (work, name) -> work.lawAt(name, 0), 0, EQUAL, 99, LESS);

        named("Promise 38", "`what`: 0 its relation, 1 1 if it was proved, otherwise 0, 2 1 if it has a condition, otherwise 0, "
            + "3 the number of laws on which it rests, 4 the least name of these (NONE without any), "
            + "5 the name of the next law by names (NONE without one)");
        range(ARGUMENT, FURNISHED, (work, what) -> work.lawAt(20, what), 0, LESS, 5, 31);
        answers(FURNISHED, work -> work.lawAt(20, 1), 1);
        answers(FURNISHED, work -> work.lawAt(7, 1), 0);
        answers(FURNISHED, work -> work.lawAt(31, 2), 1);
        answers(FURNISHED, work -> work.lawAt(7, 2), 0);
        answers(FURNISHED, work -> work.lawAt(7, 3), 0);
        answers(FURNISHED, work -> work.lawAt(20, 3), 1);

        named("Promise 38", "Returns what is asked.");
        answers(FURNISHED, work -> work.lawAt(31, 0), LESS);

        named("Promise 38", "Throws `NoSuchElementException` see section 10");
        refuses(ELEMENT, FURNISHED, work -> work.lawAt(4, 6));

        named("Promise 38", "Throws `IllegalArgumentException` see section 10");
        refuses(ARGUMENT, FURNISHED, work -> work.lawAt(3, 6));
        refuses(ARGUMENT, FURNISHED, work -> work.lawAt(3, -1));
    }

    private static void lawAtLeast() {
        named("Promise 38", "4 the least name of these (NONE without any)");
        answers(FURNISHED, work -> work.lawAt(20, 4), 7);
        answers(FURNISHED, work -> work.lawAt(7, 4), NONE);
        answers(then(FURNISHED, work -> work.lemma(50, 0)), work -> work.lawAt(50, 4), 3);
        answers(then(LAWS_0_AND_99, work -> restOn(work, 0)), work -> work.lawAt(50, 4), 0);
        answers(then(LAWS_0_AND_99, work -> restOn(work, 99)), work -> work.lawAt(50, 4), 99);

        named("Promise 38", "5 the name of the next law by names (NONE without one)");
        answers(FURNISHED, work -> work.lawAt(3, 5), 7);
        answers(FURNISHED, work -> work.lawAt(31, 5), 32);
        answers(FURNISHED, work -> work.lawAt(32, 5), NONE);
        answers(LAWS_0_AND_99, work -> work.lawAt(0, 5), 3);
        answers(LAWS_0_AND_99, work -> work.lawAt(32, 5), 99);
        answers(LAWS_0_AND_99, work -> work.lawAt(99, 5), NONE);
    }

    /** A law 50 that rests on law 0, p(p(a))=p(a), or on law 99, p(p(a))<q(a,b). */
    private static void restOn(Chainwork work, int name) {
        work.begin(2, 3);
        work.step(2, name, name == 0 ? 2 : 4);
        work.lemma(50, 2);
    }

    private static void rests() {
        named("Promise 39", "Tells whether a law rests on another one.");
        holds(FURNISHED, work -> work.rests(20, 7));
        fails(FURNISHED, work -> work.rests(20, 3));

        named("Promise 39", "`name`: a law");
        none(ELEMENT, FURNISHED, (work, name) -> work.rests(name, 3) ? 1 : 0, -1, 0, 4, 40, 99, 100, LOWEST, HIGHEST);
        range(ELEMENT, LAWS_0_AND_99, (work, name) -> work.rests(name, 3) ? 1 : 0, 0, 0, 99, 0);

        named("Promise 39", "`other`: a law");
        none(ELEMENT, FURNISHED, (work, other) -> work.rests(3, other) ? 1 : 0, -1, 0, 4, 40, 99, 100, LOWEST, HIGHEST);
        range(ELEMENT, then(LAWS_0_AND_99, work -> restOn(work, 99)),
            (work, other) -> work.rests(50, other) ? 1 : 0, 0, 0, 99, 1);

        named("Promise 39", "Returns whether it does.");
        fails(FURNISHED, work -> work.rests(7, 20));
        fails(FURNISHED, work -> work.rests(20, 20));
        fails(FURNISHED, work -> work.rests(7, 7));

        named("Promise 39", "Throws `NoSuchElementException` see section 10");
        refuses(ELEMENT, FURNISHED, work -> work.rests(4, 4));
        refuses(ELEMENT, FURNISHED, work -> work.rests(20, 40));
    }

    private static void open() {
        named("Promise 40", "Counts the open assumptions.");
        answers(FURNISHED, Chainwork::open, 1);

        named("Promise 40", "Returns 0 to 3.");
        answers(NOTHING, Chainwork::open, 0);
        answers(THREE_ASSUMPTIONS, Chainwork::open, 3);
    }
}
