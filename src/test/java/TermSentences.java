/** Promises 1 to 6 and 33 to 36, sentence by sentence: a new object, signs and terms. */
final class TermSentences extends Sentence {
    private static final Calls THREE_NUMBERS_OF_SIGNS = work -> {
        work.sign(1, RISES, 0);
        work.sign(0, 0, 0);
        work.sign(2, FALLS, MIXED);
    };

    private TermSentences() { }

    static void all() {
        aNewObject();
        sign();
        variable();
        termsArguments();
        termsExceptions();
        read();
        part();
        signs();
        termAt();
        areSame();
        direction();
    }

    private static void aNewObject() {
        named("Promise 1", "Creates a work without signs, laws, equivalences, assumptions and images, "
            + "with empty registers and chains.");
        answers(NOTHING, Chainwork::signs, 0);
        answers(NOTHING, Chainwork::laws, 0);
        answers(NOTHING, Chainwork::open, 0);
        answers(NOTHING, Chainwork::orders, 1);
        answers(NOTHING, Chainwork::errors, 0);
        answers(work -> fourEquivalences(work, 3), work -> work.equivalence(3, 0, 0, 0, 0), 4);
        refuses(STATE, work -> fourEquivalences(work, 4), work -> work.equivalence(4, 0, 0, 0, 0));
        none(STATE, NOTHING, Chainwork::restore, 0, 1);
        refuses(STATE, NOTHING, Chainwork::undo);
        for (int number = 0; number < 10; number++) {
            int register = number;
            answers(NOTHING, work -> work.termAt(register, 0), NONE);
        }
        for (int number = 0; number < 4; number++) {
            int chain = number;
            answers(NOTHING, work -> work.lines(chain), 0);
        }
    }

    private static void fourEquivalences(Chainwork work, int count) {
        work.variable(0, 0);
        for (int name = 0; name < count; name++) {
            work.equivalence(name, 0, 0, 0, 0);
        }
    }

    private static void sign() {
        named("Promise 2", "Makes a sign.");
        answers(FURNISHED, work -> work.sign(2, 0, 0) + 10 * work.signs(), 43);

        named("Promise 2", "`places`: 0 to 2");
        range(ARGUMENT, FURNISHED, (work, places) -> work.sign(places, 0, 0), 0, 3, 2, 3);
        answers(THREE_NUMBERS_OF_SIGNS, work -> Due.read(work, 0, "r(q,p(q))"), 4);

        named("Promise 2", "`first`: the direction of its first place, RISES to MIXED (any number if there is none)");
        range(ARGUMENT, NOTHING, (work, first) -> work.sign(1, first, 0), RISES, 0, MIXED, 0);
        range(ARGUMENT, NOTHING, (work, first) -> work.sign(2, first, 0), RISES, 0, MIXED, 0);
        answers(NOTHING, work -> work.sign(0, -1, 0), 0);
        answers(NOTHING, work -> work.sign(0, 3, 0), 0);
        answers(NOTHING, work -> directionMade(work, 1, MIXED, 0, 1), MIXED);
        answers(NOTHING, work -> directionMade(work, 1, FALLS, 0, 1), FALLS);

        named("Promise 2", "`second`: the direction of its second place, likewise");
        range(ARGUMENT, NOTHING, (work, second) -> work.sign(2, 0, second), RISES, 0, MIXED, 0);
        answers(NOTHING, work -> work.sign(1, 0, -1), 0);
        answers(NOTHING, work -> work.sign(1, 0, 3), 0);
        answers(NOTHING, work -> work.sign(0, LOWEST, HIGHEST), 0);
        answers(NOTHING, work -> directionMade(work, 2, MIXED, RISES, 2), RISES);
        answers(NOTHING, work -> directionMade(work, 2, RISES, MIXED, 2), MIXED);

        named("Promise 2", "Returns its number.");
        answers(NOTHING, work -> work.sign(0, 0, 0), 0);
        answers(THREE_NUMBERS_OF_SIGNS, work -> work.sign(0, 0, 0), 3);

        named("Promise 2", "Throws `IllegalArgumentException` see section 10");
        refuses(ARGUMENT, FOUR_SIGNS, work -> work.sign(3, 0, 0));
        refuses(ARGUMENT, FOUR_SIGNS, work -> work.sign(2, 0, 3));

        named("Promise 2", "Throws `IllegalStateException` if there are 4 signs");
        answers(FURNISHED, work -> work.sign(0, 9, 9), 3);
        refuses(STATE, FOUR_SIGNS, work -> work.sign(0, 9, 9));
    }

    private static int directionMade(Chainwork work, int places, int first, int second, int place) {
        work.sign(places, first, second);
        work.variable(0, 0);
        work.term(1, 0, 0, 0);
        return work.direction(1, place);
    }

    private static void variable() {
        named("Promise 3", "Puts a variable into a register.");
        writes(NOTHING, work -> {
            work.variable(4, 2);
            return work.write(4);
        }, "c");

        named("Promise 3", "`register`: 0 to 9");
        range(INDEX, NOTHING, (work, register) -> work.variable(register, 0), 0, 1, 9, 1);

        named("Promise 3", "`variable`: 0 to 3");
        range(ARGUMENT, FURNISHED, (work, variable) -> work.variable(9, variable), 0, 10, 3, 10);
        answers(work -> work.variable(5, 0), work -> work.termAt(5, 2), 1);
        answers(work -> work.variable(5, 3), work -> work.termAt(5, 2), 8);

        named("Promise 3", "Returns how many registers are not empty then.");
        answers(NOTHING, work -> work.variable(9, 0), 1);
        answers(work -> work.variable(9, 0), work -> work.variable(9, 1), 1);
        answers(FURNISHED, work -> work.variable(8, 1), 9);
        answers(FURNISHED, work -> work.variable(9, 1), 10);

        named("Promise 3", "Throws `IndexOutOfBoundsException` see section 10");
        refuses(INDEX, FURNISHED, work -> work.variable(10, 4));

        named("Promise 3", "Throws `IllegalArgumentException` see section 10");
        refuses(ARGUMENT, FURNISHED, work -> work.variable(9, 4));
    }

    private static void termsArguments() {
        named("Promise 4", "Puts a sign with terms into a register.");
        writes(FURNISHED, work -> {
            work.term(9, 1, 4, 5);
            return work.write(9);
        }, "q(q(a,b),r)");

        named("Promise 4", "`register`: 0 to 9");
        range(INDEX, FURNISHED, (work, register) -> work.term(register, 2, 0, 0), 0, 1, 9, 1);

        named("Promise 4", "`sign`: a sign");
        range(INDEX, FURNISHED, (work, sign) -> work.term(9, sign, 0, 1), 0, 2, 2, 1);
        range(INDEX, FOUR_SIGNS, (work, sign) -> work.term(9, sign, 0, 1), 0, 2, 3, 1);
        none(INDEX, work -> work.variable(0, 0), (work, sign) -> work.term(1, sign, 0, 0), 0, 3);

        named("Promise 4", "`first`: 0 to 9, the register of its first term (any number if it has no place)");
        range(INDEX, FILLED, (work, first) -> work.term(0, 0, first, 99), 0, 2, 9, 2);
        range(INDEX, FILLED, (work, first) -> work.term(0, 1, first, 3), 0, 5, 9, 5);
        answers(FURNISHED, work -> work.term(9, 2, -1, 0), 1);
        answers(FURNISHED, work -> work.term(9, 2, 10, 0), 1);
        answers(FURNISHED, work -> work.term(9, 2, LOWEST, HIGHEST), 1);

        named("Promise 4", "`second`: 0 to 9, the register of its second term (any number if it has less than two places)");
        range(INDEX, FILLED, (work, second) -> work.term(0, 1, 3, second), 0, 5, 9, 5);
        answers(FURNISHED, work -> work.term(9, 0, 3, -1), 4);
        answers(FURNISHED, work -> work.term(9, 0, 3, 10), 4);
        answers(FURNISHED, work -> work.term(9, 2, 0, 10), 1);

        named("Promise 4", "Returns the size of the term.");
        answers(FURNISHED, work -> work.term(9, 2, 0, 0), 1);
        answers(FURNISHED, work -> work.term(9, 1, 3, 4), 7);
    }

    private static void termsExceptions() {
        named("Promise 4", "Throws `IndexOutOfBoundsException` see section 10");
        refuses(INDEX, FURNISHED, work -> work.term(0, 1, 9, 10));
        refuses(INDEX, FURNISHED, work -> work.term(0, 1, 10, 9));
        refuses(INDEX, FURNISHED, work -> work.term(10, 1, 9, 9));
        refuses(INDEX, FURNISHED, work -> work.term(9, 3, 9, 9));

        named("Promise 4", "Throws `IllegalStateException` if a register whose term is needed is empty");
        refuses(STATE, FURNISHED, work -> work.term(9, 0, 9, 0));
        refuses(STATE, FURNISHED, work -> work.term(0, 1, 9, 0));
        refuses(STATE, FURNISHED, work -> work.term(0, 1, 0, 9));
        answers(FURNISHED, work -> work.term(9, 0, 0, 9), 2);
        answers(FURNISHED, work -> work.term(9, 2, 9, 9), 1);

        named("Promise 4", "or the term would be greater than 40");
        answers(then(FURNISHED, read(0, tower(39))), work -> work.term(1, 0, 0, 0), 40);
        refuses(STATE, then(FURNISHED, read(0, tower(40))), work -> work.term(1, 0, 0, 0));
        Calls halves = then(then(FURNISHED, read(0, tower(19))), read(1, tower(20)));
        answers(halves, work -> work.term(2, 1, 0, 1), 40);
        answers(halves, work -> work.term(2, 1, 1, 0), 40);
        refuses(STATE, halves, work -> work.term(2, 1, 1, 1));
        refuses(STATE, then(FURNISHED, read(0, tower(40))), work -> work.term(1, 1, 0, 0));
    }

    private static void read() {
        Calls typed = then(FURNISHED, work -> Due.type(work, "p(b)"));
        named("Promise 5", "Puts the term that the text tells into a register; the text stays.");
        writes(typed, work -> {
            work.read(9);
            return work.write(9);
        }, "p(b)");
        answers(typed, work -> work.read(9) + 10 * work.read(9) + 100 * work.clearText(), 422);

        named("Promise 5", "`register`: 0 to 9");
        range(INDEX, typed, Chainwork::read, 0, 2, 9, 2);

        named("Promise 5", "Returns the size of the term.");
        answers(FURNISHED, work -> Due.read(work, 9, "d"), 1);
        answers(FURNISHED, work -> Due.read(work, 9, tower(40)), 40);

        named("Promise 5", "Throws `IndexOutOfBoundsException` see section 10");
        refuses(INDEX, FURNISHED, work -> work.read(10));

        named("Promise 5", "Throws `IllegalArgumentException` if the text has an error");
        refuses(ARGUMENT, FURNISHED, work -> work.read(9));
        answers(then(FURNISHED, work -> work.type(')')), work -> work.read(9), 2);
        refuses(ARGUMENT, then(FURNISHED, work -> work.type(')' << 8 | ')')), work -> work.read(9));
        refuses(ARGUMENT, then(FURNISHED, Chainwork::clearText), work -> work.read(9));
        refuses(ARGUMENT, then(FURNISHED, work -> Due.type(work, tower(41))), work -> work.read(9));
    }

    private static void part() {
        named("Promise 6", "Puts a part of a term into a register.");
        writes(FURNISHED, work -> {
            work.part(7, 1, 9);
            return work.write(9);
        }, "p(a)");

        named("Promise 6", "`register`: 0 to 9");
        range(INDEX, FILLED, (work, register) -> work.part(register, 0, 3), 0, 1, 9, 1);

        named("Promise 6", "`place`: the number of a place of its term, from 0 in their order");
        range(INDEX, FURNISHED, (work, place) -> work.part(7, place, 9), 0, 4, 3, 1);
        range(INDEX, FURNISHED, (work, place) -> work.part(0, place, 9), 0, 1, 0, 1);
        writes(FURNISHED, work -> {
            work.part(7, 3, 9);
            return work.write(9);
        }, "b");

        named("Promise 6", "`into`: 0 to 9");
        range(INDEX, FURNISHED, (work, into) -> work.part(7, 1, into), 0, 2, 9, 2);
        answers(FURNISHED, work -> work.part(7, 1, 7) + work.termAt(7, 0), 4);

        named("Promise 6", "Returns the size of the part.");
        answers(then(FURNISHED, read(9, tower(40))), work -> work.part(9, 0, 0), 40);
        answers(then(FURNISHED, read(9, tower(40))), work -> work.part(9, 39, 0), 1);

        named("Promise 6", "Throws `IndexOutOfBoundsException` if there is no such register");
        refuses(INDEX, FURNISHED, work -> work.part(10, 0, 9));
        refuses(INDEX, FURNISHED, work -> work.part(9, 0, 10));

        named("Promise 6", "or its term has no such place");
        answers(FURNISHED, work -> work.part(2, 1, 9), 1);
        refuses(INDEX, FURNISHED, work -> work.part(2, 2, 9));
        refuses(INDEX, then(FURNISHED, read(9, tower(40))), work -> work.part(9, 40, 0));

        named("Promise 6", "Throws `IllegalStateException` see section 10");
        refuses(STATE, FURNISHED, work -> work.part(9, 0, 0));
        answers(FILLED, work -> work.part(9, 0, 0), 1);
    }

    private static void signs() {
        named("Promise 33", "Counts the signs.");
        answers(FURNISHED, Chainwork::signs, 3);

        named("Promise 33", "Returns 0 to 4.");
        answers(NOTHING, Chainwork::signs, 0);
        answers(FOUR_SIGNS, Chainwork::signs, 4);
    }

    private static void termAt() {
        named("Promise 34", "Tells about a term.");
        answers(FURNISHED, work -> work.termAt(7, 0), 4);

        named("Promise 34", "`register`: 0 to 9");
        range(INDEX, FILLED, (work, register) -> work.termAt(register, 2), 0, 1, 9, 8);

        named("Promise 34", "`what`: 0 its size, 1 its depth (1 of a variable and of a sign without places, otherwise "
            + "1 more than that of its deepest part), 2 its variables, as bits, 3 its sign, NONE of a variable");
        range(ARGUMENT, FURNISHED, (work, what) -> work.termAt(7, what), 0, 4, 3, 1);
        answers(FURNISHED, work -> work.termAt(0, 1), 1);
        answers(FURNISHED, work -> work.termAt(5, 1), 1);
        answers(FURNISHED, work -> work.termAt(7, 1), 3);
        answers(then(FURNISHED, read(9, "q(a,p(p(b)))")), work -> work.termAt(9, 1), 4);
        answers(then(FURNISHED, read(9, tower(40))), work -> work.termAt(9, 1), 40);
        answers(FURNISHED, work -> work.termAt(5, 2), 0);
        answers(then(FURNISHED, read(9, "q(q(a,b),q(c,d))")), work -> work.termAt(9, 2), 15);
        answers(FURNISHED, work -> work.termAt(0, 3), NONE);
        answers(FURNISHED, work -> work.termAt(2, 3), 0);
        answers(then(FOUR_SIGNS, read(9, "s")), work -> work.termAt(9, 3), 3);

        named("Promise 34", "Returns what is asked; NONE if the register is empty.");
        for (int number = 0; number < 4; number++) {
            int what = number;
            answers(FURNISHED, work -> work.termAt(9, what), NONE);
        }

        named("Promise 34", "Throws `IndexOutOfBoundsException` see section 10");
        refuses(INDEX, FURNISHED, work -> work.termAt(10, 4));

        named("Promise 34", "Throws `IllegalArgumentException` see section 10");
        none(ARGUMENT, FURNISHED, (work, what) -> work.termAt(9, what), -1, 4);
    }

    private static void areSame() {
        named("Promise 35", "Tells whether two registers have the same term.");
        fails(FURNISHED, work -> work.areSame(2, 6));
        fails(FURNISHED, work -> work.areSame(2, 3));
        holds(then(FURNISHED, read(9, "p(p(a))")), work -> work.areSame(3, 9));

        named("Promise 35", "`register`: 0 to 9");
        range(INDEX, FILLED, (work, register) -> work.areSame(register, 0) ? 1 : 0, 0, 1, 9, 0);

        named("Promise 35", "`other`: 0 to 9");
        range(INDEX, FILLED, (work, other) -> work.areSame(9, other) ? 1 : 0, 0, 0, 9, 1);

        named("Promise 35", "Returns whether they have; false if one is empty.");
        fails(FURNISHED, work -> work.areSame(9, 0));
        fails(FURNISHED, work -> work.areSame(0, 9));
        fails(FURNISHED, work -> work.areSame(9, 9));
        holds(FURNISHED, work -> work.areSame(7, 7));

        named("Promise 35", "Throws `IndexOutOfBoundsException` see section 10");
        refuses(INDEX, FURNISHED, work -> work.areSame(9, 10));
        refuses(INDEX, FURNISHED, work -> work.areSame(10, 9));
    }

    private static void direction() {
        named("Promise 36", "Returns the direction of a place of a term.");
        answers(FURNISHED, work -> work.direction(7, 2), RISES);

        named("Promise 36", "`register`: 0 to 9");
        range(INDEX, FILLED, (work, register) -> work.direction(register, 0), 0, RISES, 9, RISES);

        named("Promise 36", "`place`: its number, from 0");
        range(INDEX, FURNISHED, (work, place) -> work.direction(7, place), 0, RISES, 3, FALLS);
        range(INDEX, FURNISHED, (work, place) -> work.direction(5, place), 0, RISES, 0, RISES);

        named("Promise 36", "Returns RISES to MIXED.");
        Calls mixed = then(work -> work.sign(2, FALLS, MIXED), read(0, "p(p(a,b),c)"));
        answers(mixed, work -> work.direction(0, 2), RISES);
        answers(mixed, work -> work.direction(0, 1), FALLS);
        answers(mixed, work -> work.direction(0, 3), MIXED);
        answers(mixed, work -> work.direction(0, 4), MIXED);

        named("Promise 36", "Throws `IndexOutOfBoundsException` if there is no such register, or its term has no such place");
        refuses(INDEX, FURNISHED, work -> work.direction(10, 0));
        refuses(INDEX, FURNISHED, work -> work.direction(7, 4));
        answers(then(FURNISHED, read(9, tower(40))), work -> work.direction(9, 39), RISES);
        refuses(INDEX, then(FURNISHED, read(9, tower(40))), work -> work.direction(9, 40));

        named("Promise 36", "Throws `IllegalStateException` see section 10");
        refuses(STATE, FURNISHED, work -> work.direction(9, 0));
        answers(FILLED, work -> work.direction(9, 0), RISES);
    }
}
