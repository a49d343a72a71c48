/** Promises 12 to 15, sentence by sentence: laws that are proved by chains, by cases, across an equivalence. */
final class BookSentences extends Sentence {
    /** Chain 2 is r < a by the assumption 100. */
    private static final Calls ASSUMED = then(FURNISHED, work -> {
        work.begin(2, 5);
        work.step(2, 100, 0);
    });
    /** Chain 2 is p(a) < p(p(a)) > p(a), which has no relation. */
    private static final Calls UP_AND_DOWN = then(FURNISHED, work -> {
        work.begin(2, 2);
        work.step(2, 7, 3);
        work.step(2, 7, 2);
    });
    private static final Calls CHAIN_3_IS_A = then(FURNISHED, work -> work.begin(3, 0));
    /** Two more cases of p(a) = b, both EQUAL: 61 with a < b, 62 with b < a; 63 has the condition a < a. */
    private static final Calls EQUAL_CASES = then(FURNISHED, work -> {
        caseNamed(work, 61, EQUAL, 0, 1);
        caseNamed(work, 62, EQUAL, 1, 0);
        caseNamed(work, 63, LESS, 0, 0);
    });
    private static final Calls CASES_0_AND_99 = then(FURNISHED, work -> {
        caseNamed(work, 0, EQUAL, 0, 1);
        caseNamed(work, 99, EQUAL, 1, 0);
    });
    /** Equivalences 0 and 99: a < b just if b < a; law 50: a < b. */
    private static final Calls EQUIVALENCES_0_AND_99 = then(FURNISHED, work -> {
        work.equivalence(0, 0, 1, 1, 0);
        work.equivalence(99, 0, 1, 1, 0);
        work.law(50, 0, LESS, 1);
    });

    private BookSentences() { }

    static void all() {
        endsArguments();
        endsOrder();
        endsState();
        lemmasArguments();
        lemmasExceptions();
        casesArguments();
        casesThatAreNone();
        casesExceptions();
        acrossArguments();
        acrossLawsThatDoNotFit();
        acrossExceptions();
        acrossGreatTerms();
    }

    private static void caseNamed(Chainwork work, int name, int relation, int first, int second) {
        work.law(name, 2, relation, 1);
        work.condition(name, first, second);
    }

    private static void endsArguments() {
        named("Promise 12", "Ends the latest assumption by a chain that is right with this assumption alone counting: "
            + "the law that it proves gets the assumption as its condition, and it is open no more.");
        writes(ASSUMED, work -> {
            work.end(50, 2);
            return work.writeLaw(50);
        }, "r<a;r<a");
        answers(ASSUMED, work -> work.end(50, 2) + 10 * work.open(), LESS);
        Calls another = then(ASSUMED, work -> work.assume(5, 0));
        refuses(STATE, another, work -> work.end(50, 2));
        answers(then(another, work -> {
            work.begin(2, 5);
            work.step(2, 101, 0);
        }), work -> work.end(50, 2) + 10 * work.open(), 10 + LESS);
        answers(then(another, Chainwork::giveUp), work -> work.end(50, 2), LESS);

        named("Promise 12", "`name`: 0 to 99");
        range(ARGUMENT, ASSUMED, (work, name) -> work.end(name, 2), 0, LESS, 99, LESS);

        named("Promise 12", "`chain`: 0 to 3");
        range(INDEX, CHAIN_3_IS_A, (work, chain) -> work.end(50, chain), 0, LESS, 3, EQUAL);

        named("Promise 12", "Returns the relation of the law.");
        answers(ASSUMED, work -> work.end(50, 2), LESS);
        answers(CHAIN_3_IS_A, work -> work.end(50, 1), EQUAL);
        answers(then(ASSUMED, work -> work.turn(2)), work -> work.end(50, 2), LESS);
    }

    private static void endsOrder() {
        named("Promise 12", "Throws `IllegalArgumentException` if name is out of range");
        refuses(ARGUMENT, then(FURNISHED, Chainwork::giveUp), work -> work.end(100, 4));
        refuses(ARGUMENT, FURNISHED, work -> work.end(-1, 2));

        named("Promise 12", "Throws `IndexOutOfBoundsException` see section 10");
        refuses(INDEX, then(FURNISHED, Chainwork::giveUp), work -> work.end(3, 4));
        refuses(INDEX, FURNISHED, work -> work.end(3, -1));

        named("Promise 12", "Throws `NoSuchElementException` if none is open");
        refuses(ELEMENT, then(FURNISHED, Chainwork::giveUp), work -> work.end(3, 2));
        refuses(ELEMENT, then(FURNISHED, Chainwork::giveUp), work -> work.end(50, 1));
    }

    private static void endsState() {
        named("Promise 12", "Throws `IllegalStateException` if the chain has no line");
        refuses(STATE, FURNISHED, work -> work.end(50, 2));
        answers(then(FURNISHED, work -> work.begin(2, 0)), work -> work.end(50, 2), EQUAL);

        named("Promise 12", "is not right");
        refuses(STATE, FURNISHED, work -> work.end(50, 3));

        named("Promise 12", "or its relation is NONE");
        refuses(STATE, UP_AND_DOWN, work -> work.end(50, 2));
        answers(then(UP_AND_DOWN, work -> work.cut(2, 0, 1, 2)), work -> work.end(50, 2), LESS);
        answers(then(UP_AND_DOWN, work -> work.cut(2, 1, 2, 2)), work -> work.end(50, 2), LESS);

        named("Promise 12", "or a law or equivalence has this name");
        none(STATE, ASSUMED, (work, name) -> work.end(name, 2), 3, 7, 20, 31, 32, 40);
        answers(ASSUMED, work -> work.end(41, 2), LESS);

        named("Promise 12", "or there are 20 laws");
        answers(NINETEEN_LAWS, work -> work.end(50, 1), EQUAL);
        refuses(STATE, TWENTY_LAWS, work -> work.end(50, 1));

        named("Promise 12", "or a variable of the assumption stands neither in the first nor in the last line");
        refuses(STATE, then(FURNISHED, work -> work.assume(0, 1)), work -> work.end(50, 1));
        refuses(STATE, then(FURNISHED, work -> work.assume(1, 0)), work -> work.end(50, 1));
        answers(then(FURNISHED, work -> work.assume(0, 3)), work -> work.end(50, 1), EQUAL);
        Calls inBoth = then(FURNISHED, work -> {
            work.assume(0, 1);
            work.begin(2, 0);
            work.step(2, 101, 1);
        });
        answers(inBoth, work -> work.end(50, 2), LESS);
        Calls withoutA = then(inBoth, work -> {
            work.step(2, 7, 6);
            work.cut(2, 1, 2, 2);
        });
        refuses(STATE, withoutA, work -> work.end(50, 2));
    }

    private static void lemmasArguments() {
        named("Promise 13", "Proves a law by a chain that is right without any assumption counting.");
        writes(FURNISHED, work -> {
            work.lemma(50, 0);
            return work.writeLaw(50);
        }, "p(a)<p(a)");
        refuses(STATE, ASSUMED, work -> work.lemma(50, 2));
        answers(ASSUMED, work -> work.relation(2), LESS);

        named("Promise 13", "`name`: 0 to 99");
        range(ARGUMENT, FURNISHED, (work, name) -> work.lemma(name, 0), 0, LESS, 99, LESS);

        named("Promise 13", "`chain`: 0 to 3");
        range(INDEX, CHAIN_3_IS_A, (work, chain) -> work.lemma(50, chain), 0, LESS, 3, EQUAL);

        named("Promise 13", "Returns the relation of the law.");
        answers(FURNISHED, work -> work.lemma(50, 0), LESS);
        answers(FURNISHED, work -> work.lemma(50, 1), EQUAL);
        answers(then(FURNISHED, work -> work.turn(0)), work -> work.lemma(50, 0), LESS);
    }

    private static void lemmasExceptions() {
        named("Promise 13", "Throws `IllegalArgumentException` if name is out of range");
        refuses(ARGUMENT, FURNISHED, work -> work.lemma(100, 4));
        refuses(ARGUMENT, FURNISHED, work -> work.lemma(-1, 2));

        named("Promise 13", "Throws `IndexOutOfBoundsException` see section 10");
        refuses(INDEX, FURNISHED, work -> work.lemma(3, 4));
        refuses(INDEX, TWENTY_LAWS, work -> work.lemma(3, -1));

        named("Promise 13", "Throws `IllegalStateException` if the chain has no line");
        refuses(STATE, FURNISHED, work -> work.lemma(50, 2));
        answers(then(FURNISHED, work -> work.begin(2, 0)), work -> work.lemma(50, 2), EQUAL);

        named("Promise 13", "is not right");
        refuses(STATE, FURNISHED, work -> work.lemma(50, 3));

        named("Promise 13", "or its relation is NONE");
        refuses(STATE, UP_AND_DOWN, work -> work.lemma(50, 2));
        answers(then(UP_AND_DOWN, work -> work.cut(2, 0, 1, 2)), work -> work.lemma(50, 2), LESS);
        answers(then(UP_AND_DOWN, work -> work.cut(2, 1, 2, 2)), work -> work.lemma(50, 2), LESS);

        named("Promise 13", "or a law or equivalence has this name");
        none(STATE, FURNISHED, (work, name) -> work.lemma(name, 1), 3, 7, 20, 31, 32, 40);
        answers(FURNISHED, work -> work.lemma(41, 1), EQUAL);

        named("Promise 13", "or there are 20 laws");
        answers(NINETEEN_LAWS, work -> work.lemma(50, 1), EQUAL);
        refuses(STATE, TWENTY_LAWS, work -> work.lemma(50, 1));
    }

    private static void casesArguments() {
        named("Promise 14", "Proves a law by two cases.");
        writes(FURNISHED, work -> {
            work.cases(50, 31, 32);
            return work.writeLaw(50);
        }, "q(a,b)<p(a)");
        answers(FURNISHED, work -> work.cases(50, 32, 31) + 10 * work.lawAt(50, 1) + 100 * work.lawAt(50, 3), 211);

        named("Promise 14", "`name`: 0 to 99");
        range(ARGUMENT, FURNISHED, (work, name) -> work.cases(name, 31, 32), 0, LESS, 99, LESS);

        named("Promise 14", "`first`: a law");
        none(ELEMENT, FURNISHED, (work, first) -> work.cases(50, first, 32), -1, 0, 30, 40, 99, 100, LOWEST, HIGHEST);
        answers(CASES_0_AND_99, work -> work.cases(50, 0, 99), EQUAL);
        answers(CASES_0_AND_99, work -> work.cases(50, 99, 0), EQUAL);

        named("Promise 14", "`second`: a law");
        none(ELEMENT, FURNISHED, (work, second) -> work.cases(50, 31, second), -1, 0, 33, 40, 99, 100, LOWEST, HIGHEST);
        answers(CASES_0_AND_99, work -> work.cases(50, 0, 99), EQUAL);

        named("Promise 14", "Returns the relation of the law.");
        answers(FURNISHED, work -> work.cases(50, 31, 32), LESS);
        answers(EQUAL_CASES, work -> work.cases(50, 61, 62), EQUAL);
        answers(EQUAL_CASES, work -> work.cases(50, 63, 63), LESS);
        Calls oneIsLess = then(EQUAL_CASES, work -> caseNamed(work, 64, LESS, 1, 0));
        answers(oneIsLess, work -> work.cases(50, 61, 64), LESS);
        answers(oneIsLess, work -> work.cases(50, 64, 61), LESS);
    }

    private static void casesThatAreNone() {
        named("Promise 14", "Throws `IllegalArgumentException` if name is out of range");
        refuses(ARGUMENT, FURNISHED, work -> work.cases(100, 30, 40));
        refuses(ARGUMENT, FURNISHED, work -> work.cases(-1, 31, 40));

        named("Promise 14", "or the two laws, being there, are no two cases (section 6)");
        refuses(ARGUMENT, FURNISHED, work -> work.cases(3, 31, 31));
        refuses(ARGUMENT, FURNISHED, work -> work.cases(50, 3, 7));
        refuses(ARGUMENT, FURNISHED, work -> work.cases(50, 31, 7));
        refuses(ARGUMENT, FURNISHED, work -> work.cases(50, 7, 31));
        refuses(ARGUMENT, TWENTY_LAWS, work -> work.cases(50, 31, 20));
        refuses(ARGUMENT, EQUAL_CASES, work -> work.cases(50, 31, 62));
        refuses(ARGUMENT, EQUAL_CASES, work -> work.cases(50, 61, 63));
        answers(EQUAL_CASES, work -> work.cases(50, 63, 63), LESS);
        Calls half = then(EQUAL_CASES, work -> caseNamed(work, 64, EQUAL, 1, 1));
        refuses(ARGUMENT, half, work -> work.cases(50, 61, 64));
        refuses(ARGUMENT, half, work -> work.cases(50, 64, 62));
        Calls otherLeft = then(EQUAL_CASES, work -> {
            work.law(64, 4, EQUAL, 1);
            work.condition(64, 1, 0);
        });
        refuses(ARGUMENT, otherLeft, work -> work.cases(50, 61, 64));
        Calls otherRight = then(EQUAL_CASES, work -> {
            work.law(64, 2, EQUAL, 6);
            work.condition(64, 1, 0);
        });
        refuses(ARGUMENT, otherRight, work -> work.cases(50, 61, 64));
    }

    private static void casesExceptions() {
        named("Promise 14", "Throws `NoSuchElementException` see section 10");
        refuses(ELEMENT, FURNISHED, work -> work.cases(3, 31, 40));
        refuses(ELEMENT, FURNISHED, work -> work.cases(3, 40, 32));
        refuses(ELEMENT, TWENTY_LAWS, work -> work.cases(3, 7, 8));

        named("Promise 14", "Throws `IllegalStateException` if a law or equivalence has this name");
        none(STATE, FURNISHED, (work, name) -> work.cases(name, 31, 32), 3, 7, 20, 31, 32, 40);
        answers(FURNISHED, work -> work.cases(41, 31, 32), LESS);

        named("Promise 14", "or there are 20 laws");
        answers(NINETEEN_LAWS, work -> work.cases(50, 31, 32), LESS);
        refuses(STATE, TWENTY_LAWS, work -> work.cases(50, 31, 32));
    }

    private static void acrossArguments() {
        named("Promise 15", "Proves a law across an equivalence.");
        writes(FURNISHED, work -> {
            work.across(50, 3, 40, true);
            return work.writeLaw(50);
        }, "p(a)<p(p(a))");

        named("Promise 15", "`name`: 0 to 99");
        range(ARGUMENT, FURNISHED, (work, name) -> work.across(name, 3, 40, true), 0, 6, 99, 6);

        named("Promise 15", "`law`: a law");
        none(ELEMENT, FURNISHED, (work, law) -> work.across(50, law, 40, true), -1, 0, 4, 40, 99, 100, LOWEST, HIGHEST);
        Calls lawsAtTheEnds = then(FURNISHED, work -> {
            work.law(0, 0, LESS, 6);
            work.law(99, 0, LESS, 6);
        });
        range(ELEMENT, lawsAtTheEnds, (work, law) -> work.across(50, law, 40, false), 0, 8, 99, 8);

        named("Promise 15", "`equivalence`: an equivalence");
        none(ELEMENT, FURNISHED, (work, equivalence) -> work.across(50, 3, equivalence, true),
            -1, 0, 3, 39, 41, 99, 100, LOWEST, HIGHEST);
        range(ELEMENT, EQUIVALENCES_0_AND_99, (work, equivalence) -> work.across(51, 50, equivalence, true), 0, 7, 99, 7);

        named("Promise 15", "`isForward`: whether the law is an instance of the left line, otherwise of the right one");
        writes(FURNISHED, work -> {
            work.across(50, 7, 40, false);
            return work.writeLaw(50);
        }, "p(a)<a");
        refuses(ARGUMENT, FURNISHED, work -> work.across(50, 7, 40, true));

        writes(FURNISHED, work -> {
            work.across(50, 7, 40, false);
            work.across(51, 3, 40, true);
            work.across(52, 51, 40, false);
            return work.writeLaw(52);
        }, "p(p(a))<p(a)");

        named("Promise 15", "Returns how many laws there are then.");
        answers(FURNISHED, work -> work.across(50, 7, 40, false), 6);
        answers(NINETEEN_LAWS, work -> work.across(50, 7, 40, false), 20);
    }

    private static void acrossLawsThatDoNotFit() {
        named("Promise 15", "Throws `IllegalArgumentException` if name is out of range");
        refuses(ARGUMENT, FURNISHED, work -> work.across(100, 4, 41, true));
        refuses(ARGUMENT, FURNISHED, work -> work.across(-1, 3, 41, true));

        named("Promise 15", "or the law, both being there, is not as section 6 wants it");
        refuses(ARGUMENT, FURNISHED, work -> work.across(3, 7, 40, true));
        refuses(ARGUMENT, TWENTY_LAWS, work -> work.across(50, 7, 40, true));
        Calls limited = then(FURNISHED, work -> work.condition(3, 0, 0));
        refuses(ARGUMENT, limited, work -> work.across(50, 3, 40, true));
        Calls otherWayRound = then(FURNISHED, work -> work.law(50, 4, EQUAL, 6));
        refuses(ARGUMENT, otherWayRound, work -> work.across(51, 50, 40, true));
        answers(otherWayRound, work -> work.across(51, 50, 40, false), 7);
        Calls sameTwice = then(FURNISHED, work -> {
            work.equivalence(41, 0, 0, 0, 2);
            work.law(50, 2, EQUAL, 6);
            work.law(51, 6, EQUAL, 6);
        });
        refuses(ARGUMENT, sameTwice, work -> work.across(60, 50, 41, true));
        answers(sameTwice, work -> work.across(60, 51, 41, true), 8);
        Calls variableMissing = then(FURNISHED, work -> {
            work.equivalence(41, 0, 5, 0, 1);
            work.law(50, 0, LESS, 5);
        });
        refuses(ARGUMENT, variableMissing, work -> work.across(51, 50, 41, true));
        answers(then(variableMissing, work -> work.law(52, 0, LESS, 1)), work -> work.across(51, 52, 41, false), 8);
    }

    private static void acrossExceptions() {
        named("Promise 15", "Throws `NoSuchElementException` see section 10");
        refuses(ELEMENT, FURNISHED, work -> work.across(3, 4, 40, true));
        refuses(ELEMENT, FURNISHED, work -> work.across(3, 7, 41, true));
        refuses(ELEMENT, TWENTY_LAWS, work -> work.across(3, 40, 7, true));

        named("Promise 15", "Throws `IllegalStateException` if a law or equivalence has this name");
        none(STATE, FURNISHED, (work, name) -> work.across(name, 3, 40, true), 3, 7, 20, 31, 32, 40);
        answers(FURNISHED, work -> work.across(41, 3, 40, true), 6);

        named("Promise 15", "there are 20 laws");
        answers(NINETEEN_LAWS, work -> work.across(50, 3, 40, true), 20);
        refuses(STATE, TWENTY_LAWS, work -> work.across(50, 3, 40, true));
    }

    private static void acrossGreatTerms() {
        named("Promise 15", "or a term of the law would be greater than 40");
        answers(withLaw("p(a)", tower(39)), work -> sizeAcross(work, true), 39 + 1 + 1);
        refuses(STATE, withLaw("p(a)", tower(40)), work -> work.across(60, 50, 40, true));
        answers(withLaw(tower(39), "p(a)"), work -> sizeAcross(work, false), 1 + 39 + 1);
        refuses(STATE, withLaw(tower(40), "p(a)"), work -> work.across(60, 50, 40, false));
    }

    private static Calls withLaw(String left, String right) {
        return then(FURNISHED, work -> {
            Due.read(work, 0, left);
            Due.read(work, 1, right);
            work.law(50, 0, LESS, 1);
        });
    }

    /** The sizes of both terms of the law across the equivalence p(a) < b just if a < p(b). */
    private static int sizeAcross(Chainwork work, boolean isForward) {
        work.across(60, 50, 40, isForward);
        int written = work.writeLaw(60);
        int letters = 0;
        for (int i = 0; i < written; i++) {
            letters += Character.isLetter(work.outputAt(i)) ? 1 : 0;
        }
        return letters;
    }
}
