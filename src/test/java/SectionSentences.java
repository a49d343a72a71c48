/** Sections 1 and 3 to 6, sentence by sentence: terms, laws, steps, chains, the book. */
final class SectionSentences extends Sentence {
    /** Signs p(rises, falls), q(mixed), r and s without places; registers 0 a, 1 b. */
    private static final Calls PLAIN = work -> {
        work.sign(2, RISES, FALLS);
        work.sign(1, MIXED, 0);
        work.sign(0, 0, 0);
        work.sign(0, 0, 0);
        work.variable(0, 0);
        work.variable(1, 1);
    };
    /** The same and law 10, p(a,b) < q(b), with the condition a, p(b,b). */
    private static final Calls LIMITED = then(PLAIN, work -> {
        Due.law(work, 10, "p(a,b)", LESS, "q(b)");
        Due.condition(work, 10, "a", "p(b,b)");
    });

    private SectionSentences() { }

    static void all() {
        signs();
        termsAndSizes();
        places();
        placesWithinWhatFalls();
        laws();
        lawsAtTheEnds();
        equivalences();
        instances();
        ways();
        waysByDirection();
        firstWay();
        conditionsGranted();
        conditionsGrantedByLaws();
        assumptions();
        chains();
        chainsRelations();
        chainsTurned();
        provedByChains();
        restingOnLaws();
        restingOnWhatGrants();
        twoCases();
        acrossAnEquivalence();
    }

    private static Calls law(int name, String left, int relation, String right) {
        return work -> Due.law(work, name, left, relation, right);
    }

    private static Calls chain(String first, Object... namesAndLines) {
        return work -> {
            Due.begin(work, 0, first);
            for (int i = 0; i + 1 < namesAndLines.length; i += 2) {
                Due.line(work, 0, (Integer) namesAndLines[i], (String) namesAndLines[i + 1]);
            }
        };
    }

    /** The relation of the one step between two lines by a law. */
    private static void stepIs(Calls start, String from, int name, String to, int due) {
        answers(then(start, chain(from, name, to)), work -> work.stepAt(0, 1, 1), due);
    }

    private static void signs() {
        named("Section 1", "There are at most 4 signs, called p, q, r and s, in the order in which they were made, with 0, 1 or 2 places.");
        Calls letters = work -> {
            work.sign(0, 0, 0);
            work.sign(1, 0, 0);
            work.sign(2, 0, 0);
            work.sign(0, 0, 0);
        };
        answers(letters, work -> Due.read(work, 0, "r(q(p),s)"), 4);
        refuses(STATE, letters, work -> work.sign(0, 0, 0));
        none(ARGUMENT, NOTHING, (work, places) -> work.sign(places, 0, 0), -1, 3);

        named("Section 1", "Each place RISES, FALLS or is MIXED.");
        for (int number = RISES; number <= MIXED; number++) {
            int direction = number;
            answers(work -> {
                work.sign(2, direction, MIXED - direction);
                Due.read(work, 0, "p(a,b)");
            }, work -> work.direction(0, 1) * 10 + work.direction(0, 2), direction * 10 + MIXED - direction);
        }

        named("Section 1", "There are the variables a, b, c and d, numbered from 0.");
        String letter = "abcd";
        for (int number = 0; number < 4; number++) {
            int variable = number;
            writes(work -> work.variable(0, variable), work -> work.write(0), letter.substring(number, number + 1));
            answers(read(0, letter.substring(number, number + 1)), work -> work.termAt(0, 2), 1 << number);
        }
        none(ARGUMENT, NOTHING, (work, variable) -> work.variable(0, variable), -1, 4);
    }

    private static void termsAndSizes() {
        named("Section 1", "A term is a variable, or a sign with as many terms as it has places.");
        answers(PLAIN, work -> work.term(9, 0, 0, 1), 3);
        answers(PLAIN, work -> work.term(9, 1, 0, 1), 2);
        answers(PLAIN, work -> work.term(9, 2, 0, 1), 1);

        named("Section 1", "The size of a term is the number of signs and variables in it, each as often as it stands there; "
            + "no term that is kept has a size of more than 40.");
        answers(PLAIN, work -> Due.read(work, 9, "p(p(a,a),p(r,r))"), 7);
        Calls nineteen = then(PLAIN, read(0, "p(".repeat(9) + "a" + ",a)".repeat(9)));
        answers(nineteen, work -> work.termAt(0, 0), 19);
        answers(nineteen, work -> work.term(1, 0, 0, 0), 39);
        answers(then(nineteen, work -> work.term(1, 0, 0, 0)), work -> work.term(1, 1, 1, 0), 40);
        refuses(STATE, then(nineteen, work -> {
            work.term(1, 0, 0, 0);
            work.term(1, 1, 1, 0);
        }), work -> work.term(1, 1, 1, 0));
        refuses(STATE, then(nineteen, work -> work.term(1, 0, 0, 0)), work -> work.term(2, 0, 1, 2));
    }

    private static void places() {
        named("Section 1", "The places of a term are the term itself and the places of its parts; they are in order: "
            + "a term is ahead of its parts, the places of the first part are ahead of those of the second one.");
        String[] parts = {"p(p(a,q(b)),r)", "p(a,q(b))", "a", "q(b)", "b", "r"};
        Calls whole = then(PLAIN, read(9, parts[0]));
        for (int number = 0; number < parts.length; number++) {
            int place = number;
            writes(whole, work -> {
                work.part(9, place, 8);
                return work.write(8);
            }, parts[number]);
        }
        none(INDEX, whole, (work, place) -> work.part(9, place, 8), -1, parts.length);
    }

    private static void placesWithinWhatFalls() {
        named("Section 1", "The direction of a place within a term: the term itself rises; a part rises or falls by the place of its sign, "
            + "turned round if what is around it falls (what falls within what falls rises); "
            + "it is MIXED if its place is, or what is around it.");
        directionsAre("a", RISES);
        directionsAre("r", RISES);
        directionsAre("p(a,b)", RISES, RISES, FALLS);
        directionsAre("p(p(a,b),p(a,b))", RISES, RISES, RISES, FALLS, FALLS, FALLS, RISES);
        directionsAre("p(a,p(b,p(c,p(d,a))))", RISES, RISES, FALLS, FALLS, RISES, RISES, FALLS, FALLS, RISES);
        directionsAre("p(q(p(a,b)),q(a))", RISES, RISES, MIXED, MIXED, MIXED, FALLS, MIXED);
        directionsAre("q(q(a))", RISES, MIXED, MIXED);
    }

    private static void directionsAre(String term, int... due) {
        Calls start = then(PLAIN, read(9, term));
        for (int number = 0; number < due.length; number++) {
            int place = number;
            answers(start, work -> work.direction(9, place), due[number]);
        }
        refuses(INDEX, start, work -> work.direction(9, due.length));
    }

    private static void laws() {
        named("Section 3", "A law has a name, 0 to 99, two terms, left and right, and a relation, EQUAL or LESS (at most); "
            + "it can have a condition, two terms, of which the first one must be at most the second one.");
        none(ARGUMENT, PLAIN, (work, name) -> work.law(name, 0, EQUAL, 1), -1, 100);
        none(ARGUMENT, PLAIN, (work, relation) -> work.law(0, 0, relation, 1), NONE, MORE);
        answers(LIMITED, work -> work.lawAt(10, 2), 1);
        answers(then(PLAIN, law(10, "a", LESS, "b")), work -> work.lawAt(10, 2), 0);

        named("Section 3", "The variables of a condition must stand in the left or in the right term.");
        Calls bare = then(PLAIN, law(10, "p(a,b)", LESS, "q(c)"));
        fails(then(bare, then(read(2, "p(a,c)"), read(3, "b"))), work -> work.condition(10, 2, 3));
        fails(then(bare, then(read(2, "r"), read(3, "s"))), work -> work.condition(10, 2, 3));
        refuses(ARGUMENT, then(bare, then(read(2, "p(a,d)"), read(3, "b"))), work -> work.condition(10, 2, 3));
        refuses(ARGUMENT, then(bare, then(read(2, "b"), read(3, "d"))), work -> work.condition(10, 2, 3));
    }

    private static void lawsAtTheEnds() {
        named("Section 3", "A law is told or proved; there are at most 20 laws.");
        answers(FURNISHED, work -> work.lawAt(7, 1) + 10 * work.lawAt(20, 1), 10);
        answers(NINETEEN_LAWS, work -> work.law(50, 0, EQUAL, 0), 20);
        refuses(STATE, TWENTY_LAWS, work -> work.law(50, 0, EQUAL, 0));
        refuses(STATE, TWENTY_LAWS, work -> work.lemma(50, 0));
        refuses(STATE, TWENTY_LAWS, work -> work.end(50, 0));
        refuses(STATE, TWENTY_LAWS, work -> work.cases(50, 31, 32));
        refuses(STATE, TWENTY_LAWS, work -> work.across(50, 3, 40, true));
        answers(then(TWENTY_LAWS, Chainwork::undo), work -> work.law(50, 0, EQUAL, 0), 20);
    }

    private static void equivalences() {
        named("Section 3", "An equivalence has a name, too (one that no law has), and two lines, left one and right one, each of two terms: "
            + "for all values the first term of the left line is at most its second one just if that of the right line is; "
            + "there are at most 4 equivalences.");
        refuses(STATE, FURNISHED, work -> work.equivalence(3, 0, 0, 0, 0));
        refuses(STATE, FURNISHED, work -> work.law(40, 0, EQUAL, 0));
        Calls three = then(FURNISHED, work -> {
            work.equivalence(41, 0, 0, 1, 1);
            work.equivalence(42, 0, 1, 0, 1);
        });
        answers(three, work -> work.equivalence(43, 0, 0, 1, 1), 4);
        refuses(STATE, then(three, work -> work.equivalence(43, 0, 0, 1, 1)), work -> work.equivalence(44, 0, 0, 1, 1));
        // a < b for some values only, a < a for all of them: not just if
        answers(then(FURNISHED, work -> work.equivalence(41, 0, 1, 0, 0)), Chainwork::orders, 0);
        answers(then(FURNISHED, work -> work.equivalence(41, 0, 0, 0, 1)), Chainwork::orders, 0);
        // neither line holds for all values, but each for other ones
        answers(then(FURNISHED, work -> work.equivalence(41, 0, 1, 1, 0)), Chainwork::orders, 0);
        answers(then(FURNISHED, work -> work.equivalence(41, 0, 0, 1, 1)), Chainwork::orders, 6);
        answers(then(FURNISHED, work -> work.equivalence(41, 0, 1, 0, 1)), Chainwork::orders, 6);
    }

    private static void instances() {
        named("Section 4", "An instance of a law puts a term for each variable in it, the same one wherever it stands.");
        Calls twice = then(PLAIN, law(5, "p(a,a)", EQUAL, "p(a,b)"));
        stepIs(twice, "p(r,r)", 5, "p(r,s)", EQUAL);
        stepIs(twice, "p(r,r)", 5, "p(s,r)", NONE);
        stepIs(twice, "p(p(r,a),p(r,a))", 5, "p(p(r,a),d)", EQUAL);
        stepIs(twice, "p(p(r,a),p(r,b))", 5, "p(p(r,a),d)", NONE);
        stepIs(twice, "p(q(r),q(q(r)))", 5, "p(q(r),d)", NONE);
        stepIs(then(PLAIN, law(5, "q(a)", EQUAL, "r")), "q(a)", 5, "r", EQUAL);
        stepIs(then(PLAIN, law(5, "r", EQUAL, "a")), "r", 5, "p(s,d)", EQUAL);
        stepIs(then(PLAIN, law(5, "a", EQUAL, "b")), "p(c,d)", 5, "q(a)", EQUAL);
    }

    private static void ways() {
        named("Section 4", "A term goes to another one by a law, forward, at a place, if at this place it has the left term of an instance "
            + "of the law, the other term has the right one there, all else of both terms being equal, "
            + "the condition of the instance (if there is one) is granted, and, if the law is a LESS one, the place is not MIXED; "
            + "backward: with the right and the left term exchanged.");
        Calls both = then(then(PLAIN, law(5, "r", LESS, "s")), law(6, "r", EQUAL, "s"));
        stepIs(both, "p(r,a)", 5, "p(s,a)", LESS);
        stepIs(both, "p(r,a)", 5, "p(s,b)", NONE);
        stepIs(both, "p(r,r)", 5, "p(s,s)", NONE);
        stepIs(both, "p(r,r)", 6, "p(s,s)", NONE);
        stepIs(both, "q(r)", 5, "q(s)", NONE);
        stepIs(both, "q(s)", 5, "q(r)", NONE);
        stepIs(both, "q(r)", 6, "q(s)", EQUAL);
        stepIs(both, "q(s)", 6, "q(r)", EQUAL);
        stepIs(both, "p(s,a)", 5, "p(r,a)", MORE);
        stepIs(both, "r", 5, "r", NONE);
        stepIs(both, "r", 6, "r", NONE);
        stepIs(LIMITED, "p(r,s)", 10, "q(s)", NONE);
        stepIs(then(LIMITED, law(7, "r", LESS, "p(s,s)")), "p(r,s)", 10, "q(s)", LESS);
        stepIs(then(LIMITED, law(7, "r", LESS, "p(s,r)")), "p(r,s)", 10, "q(s)", NONE);
    }

    private static void waysByDirection() {
        named("Section 4", "The relation of this is EQUAL for an EQUAL law; for a LESS one LESS (the term is at most the other one) forward "
            + "at a place that rises and backward at one that falls, otherwise MORE.");
        Calls both = then(then(PLAIN, law(5, "r", LESS, "s")), law(6, "r", EQUAL, "s"));
        stepIs(both, "p(r,a)", 5, "p(s,a)", LESS);
        stepIs(both, "p(s,a)", 5, "p(r,a)", MORE);
        stepIs(both, "p(a,r)", 5, "p(a,s)", MORE);
        stepIs(both, "p(a,s)", 5, "p(a,r)", LESS);
        stepIs(both, "p(a,p(a,r))", 5, "p(a,p(a,s))", LESS);
        stepIs(both, "p(a,p(a,s))", 5, "p(a,p(a,r))", MORE);
        for (String pair : new String[] {"p(r,a)", "p(a,r)", "q(r)", "p(a,q(r))"}) {
            stepIs(both, pair, 6, pair.replace('r', 's'), EQUAL);
            stepIs(both, pair.replace('r', 's'), 6, pair, EQUAL);
        }
    }

    private static void firstWay() {
        named("Section 4", "A step from a line to the next one by a law is right, if the line goes to the next one so in some way; "
            + "it is done in the first such way: forward ahead of backward, then by the order of the places; "
            + "its relation is that of this way.");
        // forward at a later place comes ahead of backward at an earlier one
        Calls same = then(then(PLAIN, law(5, "p(a,r)", LESS, "p(a,r)")), chain("p(p(s,r),r)", 5, "p(p(s,r),r)"));
        answers(same, work -> work.stepAt(0, 1, 2) * 100 + work.stepAt(0, 1, 3) * 10 + work.stepAt(0, 1, 1), 100 + LESS);
        Calls turned = then(then(PLAIN, law(5, "p(a,b)", LESS, "p(b,a)")), chain("p(r,s)", 5, "p(s,r)"));
        answers(turned, work -> work.stepAt(0, 1, 2), 1);
        answers(turned, work -> work.stepAt(0, 1, 1), LESS);
        // only the second part goes so
        Calls partFirst = then(then(PLAIN, law(5, "p(a,b)", LESS, "p(a,q(b))")), chain("p(q(r),p(r,s))", 5, "p(q(r),p(r,q(s)))"));
        answers(partFirst, work -> work.stepAt(0, 1, 3) * 10 + work.stepAt(0, 1, 1), 30 + MORE);
        // no way forward: the first place backward
        Calls back = then(then(PLAIN, law(5, "q(a)", EQUAL, "a")), chain("p(r,s)", 5, "q(p(r,s))"));
        answers(back, work -> work.stepAt(0, 1, 2) * 10 + work.stepAt(0, 1, 3), 0);
        // the earlier one of two places
        Calls places = then(then(PLAIN, law(5, "q(q(a))", EQUAL, "q(a)")), chain("q(q(q(r)))", 5, "q(q(r))"));
        answers(places, work -> work.stepAt(0, 1, 2) * 10 + work.stepAt(0, 1, 3), 10);
        // the first way is MIXED, so that a later one is taken, or none is left
        Calls mixed = then(PLAIN, law(5, "q(q(a))", LESS, "q(a)"));
        stepIs(mixed, "q(q(q(r)))", 5, "q(q(r))", LESS);
        stepIs(mixed, "q(p(q(q(r)),r))", 5, "q(p(q(r),r))", NONE);
    }

    private static void conditionsGranted() {
        named("Section 4", "A condition x, y is granted, if x and y are the same term, or x, y is an assumption that counts");
        stepIs(LIMITED, "p(p(s,s),s)", 10, "q(s)", LESS);
        stepIs(LIMITED, "p(p(s,s),r)", 10, "q(r)", NONE);
        Calls assumed = then(LIMITED, work -> Due.assume(work, "r", "p(s,s)"));
        stepIs(assumed, "p(r,s)", 10, "q(s)", LESS);
        stepIs(then(assumed, Chainwork::giveUp), "p(r,s)", 10, "q(s)", NONE);
        Calls threeOpen = then(LIMITED, work -> {
            work.assume(0, 1);
            work.assume(0, 1);
            Due.assume(work, "r", "p(s,s)");
        });
        stepIs(threeOpen, "p(r,s)", 10, "q(s)", LESS);
        stepIs(threeOpen, "p(s,r)", 10, "q(r)", NONE);
        stepIs(then(LIMITED, work -> Due.assume(work, "p(s,s)", "r")), "p(r,s)", 10, "q(s)", NONE);
        stepIs(then(LIMITED, work -> Due.assume(work, "a", "p(b,b)")), "p(r,s)", 10, "q(s)", NONE);
        stepIs(then(LIMITED, work -> Due.assume(work, "a", "p(b,b)")), "p(a,b)", 10, "q(b)", LESS);
        Calls oneStep = then(assumed, chain("p(r,s)", 10, "q(s)"));
        refuses(STATE, oneStep, work -> work.lemma(50, 0));
        answers(oneStep, work -> work.end(50, 0), LESS);
        refuses(STATE, then(oneStep, work -> work.assume(0, 0)), work -> work.end(50, 0));
    }

    private static void conditionsGrantedByLaws() {
        named("Section 4", "or x and y are the left and right term of an instance of a law without a condition, "
            + "or the right and left one of an instance of an EQUAL law without a condition.");
        stepIs(then(LIMITED, law(7, "a", LESS, "p(b,b)")), "p(r,s)", 10, "q(s)", LESS);
        stepIs(then(LIMITED, law(7, "p(b,b)", LESS, "a")), "p(r,s)", 10, "q(s)", NONE);
        stepIs(then(LIMITED, law(7, "p(b,b)", EQUAL, "a")), "p(r,s)", 10, "q(s)", LESS);
        stepIs(then(LIMITED, law(7, "a", EQUAL, "p(b,b)")), "p(r,s)", 10, "q(s)", LESS);
        stepIs(then(LIMITED, law(7, "a", EQUAL, "p(a,a)")), "p(r,s)", 10, "q(s)", NONE);
        stepIs(then(LIMITED, law(7, "a", EQUAL, "p(a,a)")), "p(s,s)", 10, "q(s)", LESS);
        Calls limitedOne = then(then(LIMITED, law(7, "r", LESS, "p(s,s)")), work -> Due.condition(work, 7, "r", "r"));
        stepIs(limitedOne, "p(r,s)", 10, "q(s)", NONE);
        Calls provedOne = then(LIMITED, work -> {
            Due.law(work, 7, "r", LESS, "p(r,r)");
            Due.law(work, 8, "p(r,r)", EQUAL, "p(s,s)");
            Due.begin(work, 1, "r");
            Due.step(work, 1, 7, "p(r,r)");
            Due.step(work, 1, 8, "p(s,s)");
        });
        // what an instance puts for a variable does not stay for the next one
        stepIs(then(LIMITED, law(7, "a", EQUAL, "r")), "p(r,s)", 10, "q(s)", LESS);
        stepIs(then(then(LIMITED, law(6, "b", EQUAL, "s")), law(7, "b", EQUAL, "p(s,s)")), "p(r,s)", 10, "q(s)", LESS);
        stepIs(then(then(LIMITED, law(6, "b", LESS, "s")), law(7, "r", LESS, "b")), "p(r,s)", 10, "q(s)", LESS);
        answers(then(then(LIMITED, law(7, "a", LESS, "p(b,b)")), chain("p(p(r,s),a)", 10, "p(q(s),a)", 10, "p(q(s),a)")),
            work -> work.wrong(0), 2);
        answers(then(then(LIMITED, law(7, "a", LESS, "p(b,b)")), chain("p(p(r,s),p(s,r))", 10, "p(q(s),p(s,r))", 10, "p(q(s),q(r))")),
            work -> work.wrong(0), NONE);
        stepIs(provedOne, "p(r,s)", 10, "q(s)", NONE);
        stepIs(then(provedOne, work -> work.lemma(9, 1)), "p(r,s)", 10, "q(s)", LESS);
    }

    private static void assumptions() {
        named("Section 4", "An assumption is two terms, the first of which is taken to be at most the second one; it is itself a law "
            + "without a condition, whose only instance is itself, and its name is 100 more than its number.");
        Calls assumed = then(PLAIN, work -> Due.assume(work, "p(a,b)", "a"));
        stepIs(assumed, "p(a,b)", 100, "a", LESS);
        stepIs(assumed, "a", 100, "p(a,b)", MORE);
        stepIs(assumed, "p(c,p(a,b))", 100, "p(c,a)", MORE);
        stepIs(assumed, "p(b,a)", 100, "b", NONE);
        stepIs(assumed, "p(r,s)", 100, "r", NONE);
        stepIs(assumed, "q(p(a,b))", 100, "q(a)", NONE);
        stepIs(assumed, "p(a,b)", 101, "a", NONE);

        named("Section 4", "Assumptions are numbered from 0, in the order in which they were made; at most 3 are open.");
        Calls two = then(assumed, work -> Due.assume(work, "r", "s"));
        answers(PLAIN, work -> work.assume(0, 0), 100);
        answers(assumed, work -> work.assume(0, 0), 101);
        answers(two, work -> work.assume(0, 0), 102);
        refuses(STATE, then(two, work -> work.assume(0, 0)), work -> work.assume(0, 0));
        stepIs(two, "r", 101, "s", LESS);
        stepIs(two, "r", 100, "s", NONE);
        answers(then(two, Chainwork::giveUp), work -> work.assume(0, 0), 101);
    }

    private static void chains() {
        named("Section 5", "There are the chains 0 to 3, each a row of lines (terms), at most 12, and for each line but the first one "
            + "the name of the law by which the step to it is done; at first they have no line.");
        Calls twelve = then(PLAIN, work -> {
            work.begin(3, 0);
            for (int line = 1; line < 12; line++) {
                work.line(3, line * 9, line % 2);
            }
        });
        answers(twelve, work -> work.lines(3), 12);
        answers(twelve, work -> work.stepAt(3, 1, 0) + 100 * work.stepAt(3, 11, 0), 9909);
        refuses(STATE, twelve, work -> work.line(3, 0, 0));
        none(INDEX, twelve, (work, line) -> work.stepAt(3, line, 0), 0, 12);
        none(INDEX, PLAIN, (work, chain) -> work.begin(chain, 0), -1, 4);
        for (int number = 0; number < 4; number++) {
            int chain = number;
            answers(PLAIN, work -> work.lines(chain), 0);
            answers(PLAIN, work -> work.begin(chain, 0) + work.lines(chain), 1);
        }

        named("Section 5", "A chain is right, if it has a line and each step is right; of the open assumptions all count, "
            + "if nothing else is told.");
        refuses(STATE, PLAIN, work -> work.lemma(50, 0));
        answers(then(PLAIN, chain("a")), work -> work.lemma(50, 0), EQUAL);
        Calls threeOpen = then(PLAIN, work -> {
            Due.assume(work, "a", "b");
            Due.assume(work, "b", "c");
            Due.assume(work, "c", "d");
        });
        Calls byAll = then(threeOpen, chain("a", 100, "b", 101, "c", 102, "d"));
        answers(byAll, work -> work.relation(0), LESS);
        answers(then(byAll, Chainwork::giveUp), work -> work.wrong(0), 3);
        refuses(STATE, byAll, work -> work.end(50, 0));
        refuses(STATE, byAll, work -> work.lemma(50, 0));
    }

    private static void chainsRelations() {
        named("Section 5", "The relation of a chain that is right: EQUAL, if all steps are; LESS, if some are LESS and none MORE; "
            + "MORE, if some are MORE and none LESS; otherwise NONE.");
        Calls both = then(then(PLAIN, law(5, "r", LESS, "s")), law(6, "a", EQUAL, "p(a,a)"));
        relationIs(both, EQUAL, "r");
        relationIs(both, EQUAL, "r", 6, "p(r,r)", 6, "p(r,p(r,r))");
        relationIs(both, LESS, "r", 5, "s");
        relationIs(both, LESS, "r", 6, "p(r,r)", 5, "p(s,r)");
        relationIs(both, LESS, "r", 5, "s", 6, "p(s,s)", 5, "p(s,r)");
        relationIs(both, MORE, "r", 6, "p(r,r)", 5, "p(r,s)");
        relationIs(both, MORE, "s", 5, "r", 6, "p(r,r)");
        relationIs(both, NONE, "r", 5, "s", 5, "r");
        relationIs(both, NONE, "s", 5, "r", 6, "p(r,r)", 5, "p(s,r)");
        relationIs(both, NONE, "r", 5, "s", 5, "s");
        relationIs(both, NONE, "r", 6, "s");
        answers(both, work -> work.relation(0), NONE);
    }

    private static void relationIs(Calls start, int due, String first, Object... namesAndLines) {
        answers(then(start, chain(first, namesAndLines)), work -> work.relation(0), due);
    }

    private static void chainsTurned() {
        named("Section 5", "A chain that is turned round has its lines, and names, in the opposite order.");
        Calls turned = then(then(PLAIN, chain("a", 11, "b", 12, "c", 13, "d")), work -> work.turn(0));
        String[] lines = {"d", "c", "b", "a"};
        for (int number = 0; number < 4; number++) {
            int line = number;
            writes(turned, work -> {
                work.take(0, line, 9);
                return work.write(9);
            }, lines[number]);
        }
        answers(turned, work -> work.stepAt(0, 1, 0) * 10000 + work.stepAt(0, 2, 0) * 100 + work.stepAt(0, 3, 0), 131211);
        answers(turned, work -> work.turn(0) * 100 + work.stepAt(0, 1, 0), 411);
        answers(PLAIN, work -> work.turn(0), 0);
        answers(then(PLAIN, chain("a")), work -> work.turn(0), 1);
    }

    private static void provedByChains() {
        named("Section 6", "A law is proved by a chain: its left and right terms are the first and the last line "
            + "(if the chain's relation is MORE, the last and the first one), its relation is EQUAL, or else LESS.");
        Calls both = then(then(PLAIN, law(5, "r", LESS, "s")), law(6, "a", EQUAL, "p(a,a)"));
        lemmaIs(both, "r=r", "r");
        lemmaIs(both, "r=p(r,r)", "r", 6, "p(r,r)");
        lemmaIs(both, "p(r,r)=r", "p(r,r)", 6, "r");
        lemmaIs(both, "r<p(s,r)", "r", 6, "p(r,r)", 5, "p(s,r)");
        lemmaIs(both, "p(r,s)<r", "r", 6, "p(r,r)", 5, "p(r,s)");
        refuses(STATE, then(both, chain("r", 5, "s", 5, "r")), work -> work.lemma(50, 0));
        writes(then(both, work -> {
            Due.assume(work, "a", "a");
            chain("p(a,s)", 5, "p(a,r)", 6, "p(a,p(r,r))").on(work);
            work.turn(0);
            work.end(50, 0);
        }), work -> work.writeLaw(50), "p(a,s)<p(a,p(r,r));a<a");
    }

    private static void lemmaIs(Calls start, String due, String first, Object... namesAndLines) {
        writes(then(then(start, chain(first, namesAndLines)), work -> work.lemma(50, 0)), work -> work.writeLaw(50), due);
    }

    private static void restingOnLaws() {
        named("Section 6", "It rests on the laws of the steps of the chain");
        Calls proved = then(then(then(PLAIN, law(5, "r", LESS, "s")), law(6, "a", EQUAL, "p(a,a)")), work -> {
            chain("r", 5, "s", 6, "p(s,s)").on(work);
            work.lemma(30, 0);
            chain("q(r)").on(work);
            work.lemma(31, 0);
            chain("p(r,a)", 30, "p(p(s,s),a)").on(work);
            work.lemma(32, 0);
        });
        answers(proved, work -> work.lawAt(30, 3) * 100 + work.lawAt(30, 4), 205);
        answers(proved, work -> work.lawAt(31, 3) * 100 + work.lawAt(31, 4), NONE);

        named("Section 6", "and on all on which these rest.");
        answers(proved, work -> work.lawAt(32, 3) * 100 + work.lawAt(32, 4), 305);
        holds(proved, work -> work.rests(32, 30) && work.rests(32, 5) && work.rests(32, 6) && !work.rests(32, 31));
        Calls byAssumption = then(proved, work -> {
            Due.assume(work, "r", "s");
            chain("r", 100, "s").on(work);
            work.end(33, 0);
        });
        answers(byAssumption, work -> work.lawAt(33, 3) * 100 + work.lawAt(33, 4), NONE);
    }

    private static void restingOnWhatGrants() {
        named("Section 6", "and on the laws by which conditions were granted there (of several the one with the least name; "
            + "none if it was granted by equal terms or an assumption, which are looked at first)");
        Calls granted = then(LIMITED, work -> {
            Due.law(work, 99, "r", LESS, "p(s,s)");
            Due.law(work, 98, "p(s,s)", EQUAL, "r");
            Due.law(work, 97, "a", EQUAL, "p(b,a)");
            Due.law(work, 0, "r", LESS, "p(b,a)");
            chain("p(r,s)", 10, "q(s)").on(work);
        });
        answers(then(granted, work -> work.lemma(50, 0)), work -> work.lawAt(50, 3) * 100 + work.lawAt(50, 4), 200);
        holds(then(granted, work -> work.lemma(50, 0)), work -> work.rests(50, 10) && work.rests(50, 0) && !work.rests(50, 98));
        Calls later = then(LIMITED, work -> {
            Due.law(work, 99, "r", LESS, "p(s,s)");
            Due.law(work, 98, "p(s,s)", EQUAL, "r");
            chain("p(r,s)", 10, "q(s)").on(work);
            work.lemma(50, 0);
        });
        holds(later, work -> work.rests(50, 98) && !work.rests(50, 99));
        Calls byAssumption = then(granted, work -> {
            Due.assume(work, "r", "p(s,s)");
            work.end(50, 0);
        });
        answers(byAssumption, work -> work.lawAt(50, 3) * 100 + work.lawAt(50, 4), 110);
        Calls grantedBefore = then(granted, work -> {
            Due.begin(work, 1, "s");
            Due.step(work, 1, 97, "p(r,s)");
            work.relation(0);
            work.lemma(51, 1);
        });
        answers(grantedBefore, work -> work.lawAt(51, 3) * 100 + work.lawAt(51, 4), 197);
        Calls byEqualTerms = then(then(LIMITED, law(0, "a", LESS, "a")), work -> {
            chain("p(p(s,s),s)", 10, "q(s)").on(work);
            work.lemma(50, 0);
        });
        answers(byEqualTerms, work -> work.lawAt(50, 3) * 100 + work.lawAt(50, 4), 110);
    }

    private static void twoCases() {
        named("Section 6", "A law is proved by two cases: by two laws with the same left term and the same right one, "
            + "whose conditions are x, y and y, x (two terms, each the same in both; if x and y are the same term, both laws can be one): "
            + "it has these terms and no condition, and is EQUAL if both are, otherwise LESS. "
            + "It rests on both, and on all on which these rest.");
        Calls told = then(PLAIN, work -> {
            caseOf(work, 1, EQUAL, "q(a)", "q(b)");
            caseOf(work, 2, EQUAL, "q(b)", "q(a)");
            caseOf(work, 3, LESS, "q(b)", "q(a)");
            caseOf(work, 4, EQUAL, "r", "r");
            caseOf(work, 5, LESS, "q(a)", "q(a)");
        });
        writes(then(told, work -> work.cases(50, 1, 2)), work -> work.writeLaw(50), "p(a,b)=p(b,a)");
        writes(then(told, work -> work.cases(50, 1, 3)), work -> work.writeLaw(50), "p(a,b)<p(b,a)");
        writes(then(told, work -> work.cases(50, 4, 4)), work -> work.writeLaw(50), "p(a,b)=p(b,a)");
        writes(then(told, work -> work.cases(50, 5, 5)), work -> work.writeLaw(50), "p(a,b)<p(b,a)");
        answers(then(told, work -> work.cases(50, 1, 3)), work -> work.lawAt(50, 3) * 10 + work.lawAt(50, 4), 21);
        answers(then(told, work -> work.cases(50, 4, 4)), work -> work.lawAt(50, 3) * 10 + work.lawAt(50, 4), 14);
        refuses(ARGUMENT, told, work -> work.cases(50, 1, 1));
        refuses(ARGUMENT, told, work -> work.cases(50, 2, 3));
        refuses(ARGUMENT, told, work -> work.cases(50, 4, 5));
        refuses(ARGUMENT, then(told, law(6, "p(a,b)", EQUAL, "p(b,a)")), work -> work.cases(50, 6, 6));
        Calls resting = then(FURNISHED, work -> {
            work.law(60, 5, LESS, 2);
            work.condition(60, 0, 5);
            work.begin(2, 5);
            work.step(2, 100, 0);
            work.step(2, 7, 2);
            work.end(61, 2);
            work.cases(62, 60, 61);
        });
        holds(resting, work -> work.rests(62, 60) && work.rests(62, 61) && work.rests(62, 7) && work.lawAt(62, 3) == 3);
    }

    private static void caseOf(Chainwork work, int name, int relation, String x, String y) {
        Due.law(work, name, "p(a,b)", relation, "p(b,a)");
        Due.condition(work, name, x, y);
    }

    private static void acrossAnEquivalence() {
        named("Section 6", "A law is proved across an equivalence: by a law without a condition whose two terms are, in this order, "
            + "those of an instance of one line of the equivalence: it is a LESS one that has, in this order, "
            + "the terms of the other line of the instance.");
        Calls told = then(PLAIN, work -> {
            String[] lines = {"p(a,b)", "c", "a", "q(p(c,b))"};
            for (int register = 2; register < 6; register++) {
                Due.read(work, register, lines[register - 2]);
            }
            work.equivalence(20, 2, 3, 4, 5);
            Due.law(work, 1, "p(q(d),r)", EQUAL, "p(d,d)");
            Due.law(work, 2, "s", LESS, "q(p(a,r))");
            Due.law(work, 3, "p(d,d)", EQUAL, "a");
        });
        writes(then(told, work -> work.across(50, 1, 20, true)), work -> work.writeLaw(50), "q(d)<q(p(p(d,d),r))");
        answers(then(told, work -> work.across(50, 1, 20, true)), work -> work.lawAt(50, 0), LESS);
        writes(then(told, work -> work.across(50, 2, 20, false)), work -> work.writeLaw(50), "p(s,r)<a");
        refuses(ARGUMENT, told, work -> work.across(50, 1, 20, false));
        refuses(ARGUMENT, told, work -> work.across(50, 2, 20, true));
        refuses(ARGUMENT, told, work -> work.across(50, 3, 20, false));
        answers(told, work -> work.across(50, 3, 20, true), 4);
        refuses(ARGUMENT, then(told, work -> Due.condition(work, 1, "r", "r")), work -> work.across(50, 1, 20, true));

        named("Section 6", "(All variables of the equivalence that stand in the other line must stand in the one line.)");
        Calls missing = then(told, work -> {
            work.equivalence(21, 2, 3, 4, 3);
            Due.law(work, 4, "d", LESS, "s");
        });
        answers(missing, work -> work.across(50, 1, 21, true), 5);
        refuses(ARGUMENT, missing, work -> work.across(50, 4, 21, false));
        refuses(ARGUMENT, missing, work -> work.across(50, 1, 21, false));

        named("Section 6", "It rests on the law and on all on which this rests.");
        Calls resting = then(told, work -> {
            chain("p(q(d),r)", 1, "p(d,d)").on(work);
            work.lemma(30, 0);
            work.across(31, 30, 20, true);
        });
        holds(resting, work -> work.rests(31, 30) && work.rests(31, 1) && work.lawAt(31, 3) == 2);
    }
}
