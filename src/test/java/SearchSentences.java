/** Promise 23 and section 7, sentence by sentence: the search for the shortest chain. */
final class SearchSentences extends Sentence {
    private static final String SECTION = "Section 7";
    /** Sign p that rises; law 7: a < p(a); register k has k signs p around a. */
    private static final Calls LADDER = work -> {
        work.sign(1, RISES, 0);
        for (int register = 0; register < 10; register++) {
            Due.read(work, register, tower(register + 1));
        }
        work.law(7, 0, LESS, 1);
    };
    /**
     * Signs p (two places), q, r, s (one place); laws 1 to 9 put nine other terms for q, so that
     * p(q,p(q,q)) in register 0 goes to 10 * 10 * 10 terms, itself counted in; d is none of them.
     */
    private static final Calls THOUSAND = work -> {
        work.sign(2, RISES, RISES);
        work.sign(0, 0, 0);
        work.sign(0, 0, 0);
        work.sign(1, RISES, 0);
        String[] others = {"r", "s(r)", "s(s(r))", "s(s(s(r)))", "p(r,r)", "p(s(r),r)", "p(r,s(r))", "s(p(r,r))", "s(s(s(s(r))))"};
        for (int i = 0; i < others.length; i++) {
            Due.law(work, i + 1, "q", LESS, others[i]);
        }
        Due.read(work, 0, "p(q,p(q,q))");
        work.variable(1, 3);
    };
    /** The same and a 1001st term, r, to which one of those goes that are found last. */
    private static final Calls THOUSAND_AND_ONE = then(THOUSAND, work -> {
        Due.law(work, 10, "p(s(r),p(s(r),s(r)))", LESS, "r");
        Due.read(work, 2, "r");
        Due.read(work, 3, "p(s(s(s(s(r)))),p(s(s(s(s(r)))),s(s(s(s(r))))))");
    });

    /** Law 5: r = p(r,r), by which a term becomes greater by 2. */
    private static final Calls GROWING = work -> {
        work.sign(2, RISES, RISES);
        work.sign(0, 0, 0);
        work.sign(0, 0, 0);
        work.sign(1, RISES, 0);
        Due.law(work, 5, "r", EQUAL, "p(r,r)");
    };

    private SearchSentences() { }

    static void all() {
        arguments();
        exceptions();
        thousandTerms();
        waysByRelation();
        ways();
        sizes();
        orderOfWays();
        length();
        notUsed();
    }

    private static void arguments() {
        named("Promise 23", "Makes a chain the told chain from a term to another one (section 7).");
        answers(LADDER, work -> work.find(2, 0, 2, LESS, 4) + 10 * work.lines(2), 32);
        for (int number = 0; number < 5; number++) {
            int line = number;
            writes(LADDER, work -> {
                work.find(2, 0, 4, LESS, 4);
                work.take(2, line, 9);
                return work.write(9);
            }, tower(line + 1));
        }
        Calls amongMany = then(THOUSAND_AND_ONE, work -> work.find(2, 0, 2, LESS, 4));
        answers(amongMany, work -> work.relation(2), LESS);
        answers(amongMany, work -> work.stepAt(2, 1, 0) * 1000 + work.stepAt(2, 2, 0) * 100 + work.stepAt(2, 3, 0) * 10
            + work.stepAt(2, 4, 0) - 10, 2220);
        writes(amongMany, work -> {
            work.take(2, 2, 9);
            return work.write(9);
        }, "p(s(r),p(s(r),q))");

        named("Promise 23", "`chain`: 0 to 3");
        range(INDEX, FURNISHED, (work, chain) -> work.find(chain, 0, 2, LESS, 4), 0, 1, 3, 1);
        answers(FURNISHED, work -> work.find(0, 0, 2, LESS, 4) + 10 * work.lines(0), 21);

        Calls aInNine = then(FURNISHED, work -> work.variable(9, 0));
        named("Promise 23", "`from`: a register");
        range(INDEX, aInNine, (work, from) -> work.find(2, from, 2, LESS, 4), 0, 1, 9, 1);

        named("Promise 23", "`to`: a register");
        range(INDEX, aInNine, (work, to) -> work.find(2, 2, to, MORE, 4), 0, 1, 9, 1);

        named("Promise 23", "`relation`: EQUAL to MORE");
        range(ARGUMENT, FURNISHED, (work, relation) -> work.find(2, 2, 3, relation, 4), EQUAL, 1, MORE, 1);

        named("Promise 23", "`most`: 0 to 4, how many steps it has at most");
        range(ARGUMENT, FURNISHED, (work, most) -> work.find(2, 0, 0, LESS, most), 0, 0, 4, 0);
        answers(LADDER, work -> work.find(0, 0, 4, LESS, 4), 4);
        answers(LADDER, work -> work.find(0, 0, 1, LESS, 1), 1);
        refuses(ELEMENT, LADDER, work -> work.find(0, 0, 1, LESS, 0));

        named("Promise 23", "Returns how many steps it has.");
        answers(LADDER, work -> work.find(0, 3, 3, LESS, 4), 0);
        answers(LADDER, work -> work.find(0, 4, 0, MORE, 4), 4);
    }

    private static void exceptions() {
        named("Promise 23", "Throws `IndexOutOfBoundsException` see section 10");
        refuses(INDEX, FURNISHED, work -> work.find(4, 9, 9, 3, 5));
        refuses(INDEX, FURNISHED, work -> work.find(0, 10, 9, 3, 5));
        refuses(INDEX, FURNISHED, work -> work.find(0, 9, 10, 3, 5));

        named("Promise 23", "Throws `IllegalArgumentException` see section 10");
        refuses(ARGUMENT, FURNISHED, work -> work.find(0, 9, 9, 3, 4));
        refuses(ARGUMENT, FURNISHED, work -> work.find(0, 9, 9, 0, 5));

        named("Promise 23", "Throws `IllegalStateException` if a register is empty");
        refuses(STATE, FURNISHED, work -> work.find(0, 9, 0, LESS, 4));
        refuses(STATE, FURNISHED, work -> work.find(0, 0, 9, LESS, 4));
        refuses(STATE, FURNISHED, work -> work.find(0, 9, 9, LESS, 0));

        named("Promise 23", "or the 1001st term would be found");
        refuses(STATE, THOUSAND_AND_ONE, work -> work.find(0, 0, 1, LESS, 4));

        named("Promise 23", "Throws `NoSuchElementException` if there is no such chain with so few steps");
        answers(LADDER, work -> work.find(0, 0, 3, LESS, 3), 3);
        refuses(ELEMENT, LADDER, work -> work.find(0, 0, 3, LESS, 2));
        refuses(ELEMENT, LADDER, work -> work.find(0, 0, 5, LESS, 4));
        refuses(ELEMENT, LADDER, work -> work.find(0, 0, 1, EQUAL, 4));
        refuses(ELEMENT, LADDER, work -> work.find(0, 0, 1, MORE, 4));
    }

    private static void thousandTerms() {
        named(SECTION, "Terms are found in that order, length by length, up to as many steps as are told, each one once, "
            + "the first one counted in; if a 1001st one would be found ahead of the other term, the search throws an exception.");
        // just 1000 terms are found, though most of them are come to in several orders of the steps
        refuses(ELEMENT, THOUSAND, work -> work.find(0, 0, 1, LESS, 3));
        refuses(ELEMENT, THOUSAND, work -> work.find(0, 0, 1, LESS, 4));
        refuses(ELEMENT, THOUSAND_AND_ONE, work -> work.find(0, 0, 1, LESS, 3));
        refuses(STATE, THOUSAND_AND_ONE, work -> work.find(0, 0, 1, LESS, 4));
        // a search that was refused leaves nothing for the next one
        Calls refused = then(THOUSAND_AND_ONE, work -> {
            try {
                work.find(0, 0, 1, LESS, 4);
            } catch (IllegalStateException e) {
                work.turn(0);
            }
        });
        answers(refused, work -> work.find(0, 0, 3, LESS, 4) + 10 * work.find(1, 1, 1, EQUAL, 0), 3);
        refuses(ELEMENT, refused, work -> work.find(0, 0, 1, LESS, 3));
        // the other term is the 1000th one, or it is the 1001st one itself
        answers(THOUSAND_AND_ONE, work -> work.find(0, 0, 3, LESS, 4), 3);
        answers(THOUSAND_AND_ONE, work -> work.find(0, 0, 2, LESS, 4), 4);
        // the 1001st term is found first: this one would be the 1002nd
        Calls another = then(THOUSAND_AND_ONE, work -> {
            Due.law(work, 11, "p(s(r),p(s(r),s(r)))", LESS, "s(r)");
            Due.read(work, 4, "s(r)");
        });
        refuses(STATE, another, work -> work.find(0, 0, 4, LESS, 4));
        answers(another, work -> work.find(0, 4, 4, LESS, 4), 0);
    }

    private static void waysByRelation() {
        named(SECTION, "The search for a chain from a term to another one, by a relation, looks at what the term goes to in one way: "
            + "for EQUAL by ways whose relation is EQUAL, for LESS also by LESS ones, for MORE also by MORE ones.");
        answers(FURNISHED, work -> work.find(2, 2, 3, EQUAL, 1), 1);
        refuses(ELEMENT, FURNISHED, work -> work.find(2, 0, 2, EQUAL, 4));
        answers(FURNISHED, work -> work.find(2, 0, 3, LESS, 2), 2);
        refuses(ELEMENT, FURNISHED, work -> work.find(2, 0, 2, MORE, 4));
        answers(FURNISHED, work -> work.find(2, 3, 0, MORE, 2), 2);
        refuses(ELEMENT, FURNISHED, work -> work.find(2, 2, 0, LESS, 4));
        Calls falling = then(FURNISHED, read(9, "q(a,p(b))"));
        answers(falling, work -> work.find(2, 4, 9, MORE, 1), 1);
        refuses(ELEMENT, falling, work -> work.find(2, 4, 9, LESS, 1));
        Calls mixed = then(FURNISHED, work -> {
            work.sign(1, MIXED, 0);
            Due.read(work, 8, "s(a)");
            Due.read(work, 9, "s(p(a))");
        });
        refuses(ELEMENT, mixed, work -> work.find(2, 8, 9, LESS, 1));
        refuses(ELEMENT, mixed, work -> work.find(2, 8, 9, MORE, 1));
        refuses(ELEMENT, mixed, work -> work.find(2, 9, 8, LESS, 1));
        Calls mixedEqual = then(mixed, read(8, "s(p(p(a)))"));
        answers(mixedEqual, work -> work.find(2, 8, 9, LESS, 1), 1);
    }

    private static void ways() {
        named(SECTION, "Only laws without a condition are used, each way such that all variables of that one of the law's two terms "
            + "whose instance comes to the place stand in the other one, and only terms of a size of at most 25 are made.");
        Calls limited = then(LADDER, work -> work.law(8, 0, EQUAL, 2));
        answers(limited, work -> work.find(0, 0, 2, EQUAL, 1), 1);
        refuses(ELEMENT, then(limited, work -> work.condition(8, 0, 0)), work -> work.find(0, 0, 2, EQUAL, 1));
        Calls forgetful = then(FURNISHED, work -> {
            work.law(50, 4, EQUAL, 0);
            work.law(51, 7, EQUAL, 1);
        });
        answers(forgetful, work -> work.find(2, 4, 0, EQUAL, 1), 1);
        refuses(ELEMENT, forgetful, work -> work.find(2, 0, 4, EQUAL, 4));
        refuses(ELEMENT, forgetful, work -> work.find(2, 1, 7, EQUAL, 4));
        answers(then(forgetful, work -> work.begin(2, 0)), work -> work.step(2, 50, 4), EQUAL);
        Calls noVariable = then(FURNISHED, work -> work.law(50, 0, LESS, 5));
        answers(noVariable, work -> work.find(2, 1, 5, LESS, 1), 1);
        refuses(ELEMENT, noVariable, work -> work.find(2, 5, 1, MORE, 4));
    }

    private static void sizes() {
        named(SECTION, "and only terms of a size of at most 25 are made");
        answers(withTowers(24, 25), work -> work.find(0, 8, 9, LESS, 1), 1);
        refuses(ELEMENT, withTowers(25, 26), work -> work.find(0, 8, 9, LESS, 4));
        answers(withTowers(26, 25), work -> work.find(0, 8, 9, MORE, 1), 1);
        refuses(ELEMENT, withTowers(27, 26), work -> work.find(0, 8, 9, MORE, 4));
        refuses(ELEMENT, withTowers(40, 39), work -> work.find(0, 8, 9, MORE, 4));
        answers(withTowers(40, 40), work -> work.find(0, 8, 9, EQUAL, 0), 0);
        // what stands ahead of the place and behind it counts, too
        growsWithin("p(r,T)", 21);
        growsWithin("p(T,r)", 21);
        growsWithin("p(p(c,r),T)", 19);
        growsWithin("p(T,p(r,c))", 19);
        // what would be made in one step is too great, though in another way it is not
        Calls around = then(withTowers(25, 25), work -> {
            work.law(8, 2, EQUAL, 0);
            Due.read(work, 9, tower(23));
        });
        answers(around, work -> work.find(0, 8, 9, LESS, 4), 1);
    }

    /** In a term whose T is of this size, r can still become p(r,r); if T is greater by 1, it can't. */
    private static void growsWithin(String term, int size) {
        answers(grown(term, size), work -> work.find(0, 8, 9, EQUAL, 1) * 100 + work.termAt(9, 0), 125);
        answers(grown(term, size + 1), work -> work.termAt(9, 0), 26);
        refuses(ELEMENT, grown(term, size + 1), work -> work.find(0, 8, 9, EQUAL, 4));
    }

    private static Calls grown(String term, int size) {
        String from = term.replace("T", "s(".repeat(size - 1) + "c" + ")".repeat(size - 1));
        return then(GROWING, work -> {
            Due.read(work, 8, from);
            Due.read(work, 9, from.replace("r", "p(r,r)"));
        });
    }

    private static Calls withTowers(int from, int to) {
        return then(LADDER, work -> {
            Due.read(work, 8, tower(from));
            Due.read(work, 9, tower(to));
        });
    }

    private static void orderOfWays() {
        named(SECTION, "Ways are in order by the names of their laws, forward ahead of backward, then by places.");
        Calls names = then(LADDER, work -> {
            work.law(99, 0, EQUAL, 1);
            work.law(0, 1, EQUAL, 0);
        });
        answers(then(names, work -> work.find(0, 0, 1, LESS, 1)), work -> work.stepAt(0, 1, 0), 0);
        answers(then(LADDER, work -> work.find(0, 0, 1, LESS, 1)), work -> work.stepAt(0, 1, 0), 7);
        // the way by the lower name comes first, though its place is behind or ahead of the other one's
        Calls pairs = work -> {
            work.sign(2, RISES, RISES);
            work.sign(0, 0, 0);
            work.sign(0, 0, 0);
            work.sign(0, 0, 0);
            Due.read(work, 0, "p(q,q)");
            Due.read(work, 1, "p(r,s)");
            Due.law(work, 5, "q", EQUAL, "r");
            Due.law(work, 6, "q", EQUAL, "s");
            work.find(0, 0, 1, EQUAL, 2);
        };
        answers(pairs, work -> work.stepAt(0, 1, 0) * 10 + work.stepAt(0, 2, 0), 56);
        answers(pairs, work -> work.stepAt(0, 1, 3) * 10 + work.stepAt(0, 2, 3), 12);
        Calls turned = work -> {
            pairs.on(work);
            Due.read(work, 1, "p(s,r)");
            work.find(0, 0, 1, EQUAL, 2);
        };
        answers(turned, work -> work.stepAt(0, 1, 0) * 10 + work.stepAt(0, 2, 0), 56);
        answers(turned, work -> work.stepAt(0, 1, 3) * 10 + work.stepAt(0, 2, 3), 21);
        Calls places = work -> {
            pairs.on(work);
            Due.read(work, 1, "p(r,r)");
            work.find(0, 0, 1, EQUAL, 2);
            work.take(0, 1, 9);
        };
        writes(places, work -> work.write(9), "p(r,q)");
        Calls directions = work -> {
            work.sign(2, RISES, RISES);
            work.sign(0, 0, 0);
            work.sign(0, 0, 0);
            work.sign(0, 0, 0);
            Due.law(work, 5, "q", EQUAL, "r");
            Due.read(work, 0, "p(r,q)");
            Due.read(work, 1, "p(q,r)");
            work.find(0, 0, 1, EQUAL, 2);
            work.take(0, 1, 9);
        };
        writes(directions, work -> work.write(9), "p(r,r)");
    }

    private static void length() {
        named(SECTION, "The told chain is the shortest one, of several the one whose first way comes first, then the second one, and so on.");
        Calls shortCut = then(LADDER, work -> work.law(99, 0, LESS, 3));
        answers(shortCut, work -> work.find(0, 0, 3, LESS, 4), 1);
        answers(then(shortCut, work -> work.find(0, 0, 4, LESS, 4)), work -> work.stepAt(0, 1, 0) * 100 + work.stepAt(0, 2, 0), 799);
        answers(LADDER, work -> work.find(0, 0, 3, LESS, 4), 3);

        named(SECTION, "(A chain has lines and names alone: a step of it is then done in its first way, "
            + "so that its relation can be another one.)");
        Calls bothWays = work -> {
            work.sign(1, RISES, 0);
            work.variable(0, 0);
            work.term(1, 0, 0, 0);
            work.term(2, 0, 1, 0);
            work.law(7, 1, LESS, 1);
            work.law(8, 1, LESS, 2);
            work.law(9, 2, LESS, 1);
            work.find(0, 1, 2, MORE, 1);
        };
        answers(bothWays, work -> work.stepAt(0, 1, 0) * 10 + work.stepAt(0, 1, 1), 90 + MORE);
        Calls own = work -> {
            work.sign(0, 0, 0);
            work.sign(0, 0, 0);
            work.sign(2, RISES, FALLS);
            Due.law(work, 5, "r(a,b)", LESS, "r(b,a)");
            Due.read(work, 0, "r(p,q)");
            Due.read(work, 1, "r(q,p)");
            work.find(0, 0, 1, MORE, 1);
        };
        answers(own, work -> work.stepAt(0, 1, 1), LESS);
        answers(own, work -> work.relation(0), LESS);
    }

    private static void notUsed() {
        named(SECTION, "Assumptions are not used.");
        Calls assumed = then(then(FURNISHED, read(9, "q(r,r)")), work -> work.assume(5, 9));
        refuses(ELEMENT, assumed, work -> work.find(2, 5, 9, LESS, 4));
        answers(then(assumed, work -> work.law(50, 5, LESS, 9)), work -> work.find(2, 5, 9, LESS, 4), 1);
    }
}
