/** Promises 16 to 22 and 41 to 45, sentence by sentence: chains and what is told about them. */
final class ChainSentences extends Sentence {
    private static final Calls ELEVEN_LINES = then(FURNISHED, work -> lineUp(work, 2, 11));
    private static final Calls TWELVE_LINES = then(FURNISHED, work -> lineUp(work, 2, 12));
    /** Laws 0 and 99: a < p(a); assumptions 100 to 102: r < a. */
    private static final Calls NAMES_AT_THE_ENDS = then(FURNISHED, work -> {
        work.law(0, 0, LESS, 2);
        work.law(99, 0, LESS, 2);
        work.assume(5, 0);
        work.assume(5, 0);
    });

    private ChainSentences() { }

    static void all() {
        begin();
        lineArguments();
        lineExceptions();
        stepArguments();
        stepExceptions();
        turn();
        joinArguments();
        joinExceptions();
        cutArguments();
        cutExceptions();
        take();
        lines();
        wrong();
        relation();
        stepAtArguments();
        stepAtAnswers();
        stepAtExceptions();
        needs();
    }

    /** A chain of so many lines a. */
    private static void lineUp(Chainwork work, int chain, int count) {
        work.begin(chain, 0);
        for (int line = 1; line < count; line++) {
            work.line(chain, 3, 0);
        }
    }

    private static void begin() {
        named("Promise 16", "Begins a chain: it has one line then.");
        answers(FURNISHED, work -> work.begin(0, 1) + 10 * work.lines(0), 13);
        answers(FURNISHED, work -> work.begin(2, 1) + 10 * work.lines(2), 10);

        named("Promise 16", "`chain`: 0 to 3");
        range(INDEX, FURNISHED, (work, chain) -> work.begin(chain, 0), 0, 3, 3, 2);

        named("Promise 16", "`register`: 0 to 9, its line");
        range(INDEX, FILLED, (work, register) -> work.begin(2, register), 0, 0, 9, 0);
        writes(FILLED, work -> {
            work.begin(2, 9);
            work.take(2, 0, 0);
            return work.write(0);
        }, "d");

        named("Promise 16", "Returns how many lines it had.");
        answers(TWELVE_LINES, work -> work.begin(2, 0), 12);
        answers(FURNISHED, work -> work.begin(2, 0), 0);

        named("Promise 16", "Throws `IndexOutOfBoundsException` see section 10");
        refuses(INDEX, FURNISHED, work -> work.begin(4, 9));
        refuses(INDEX, FURNISHED, work -> work.begin(0, 10));

        named("Promise 16", "Throws `IllegalStateException` see section 10");
        refuses(STATE, FURNISHED, work -> work.begin(0, 9));
        answers(FILLED, work -> work.begin(0, 9), 3);
    }

    private static void lineArguments() {
        named("Promise 17", "Adds a line to a chain, whether the step is right or not.");
        answers(FURNISHED, work -> work.line(0, 7, 3) + 10 * work.relation(0), 4 + 10 * LESS);
        answers(FURNISHED, work -> work.line(0, 7, 5) + 10 * work.relation(0), 4 + 10 * NONE);

        named("Promise 17", "`chain`: 0 to 3");
        range(INDEX, FURNISHED, (work, chain) -> work.line(chain, 7, 0), 0, 4, 3, 3);

        named("Promise 17", "`name`: 0 to 102, the name of a law or assumption, whether it is there or not");
        range(ARGUMENT, FURNISHED, (work, name) -> work.line(0, name, 0), 0, 4, 102, 4);
        answers(FURNISHED, work -> work.line(0, 0, 0) + work.stepAt(0, 3, 0), 4);
        answers(FURNISHED, work -> work.line(0, 102, 0) + work.stepAt(0, 3, 0), 106);

        named("Promise 17", "`register`: 0 to 9, the line");
        range(INDEX, FILLED, (work, register) -> work.line(0, 7, register), 0, 4, 9, 4);
        writes(FILLED, work -> {
            work.line(0, 7, 9);
            work.take(0, 3, 0);
            return work.write(0);
        }, "d");

        named("Promise 17", "Returns how many lines it has then.");
        answers(FURNISHED, work -> work.line(1, 7, 0), 2);
        answers(ELEVEN_LINES, work -> work.line(2, 7, 0), 12);
    }

    private static void lineExceptions() {
        named("Promise 17", "Throws `IndexOutOfBoundsException` see section 10");
        refuses(INDEX, FURNISHED, work -> work.line(4, 103, 9));
        refuses(INDEX, FURNISHED, work -> work.line(2, 103, 10));

        named("Promise 17", "Throws `IllegalArgumentException` see section 10");
        refuses(ARGUMENT, FURNISHED, work -> work.line(2, 103, 9));
        refuses(ARGUMENT, TWELVE_LINES, work -> work.line(2, -1, 0));

        named("Promise 17", "Throws `IllegalStateException` if the register is empty");
        refuses(STATE, FURNISHED, work -> work.line(0, 7, 9));
        answers(FILLED, work -> work.line(0, 7, 9), 4);

        named("Promise 17", "or the chain has no line");
        refuses(STATE, FURNISHED, work -> work.line(2, 7, 0));
        answers(then(FURNISHED, work -> work.begin(2, 0)), work -> work.line(2, 7, 0), 2);

        named("Promise 17", "or 12");
        answers(ELEVEN_LINES, work -> work.line(2, 7, 0), 12);
        refuses(STATE, TWELVE_LINES, work -> work.line(2, 7, 0));
    }

    private static void stepArguments() {
        named("Promise 18", "Adds a line to a chain by a step that is right.");
        answers(FURNISHED, work -> work.step(0, 7, 3) + 10 * work.lines(0), 40 + LESS);

        Calls allBeginWithA = then(FURNISHED, work -> {
            work.begin(0, 0);
            work.begin(3, 0);
        });
        named("Promise 18", "`chain`: 0 to 3");
        range(INDEX, allBeginWithA, (work, chain) -> work.step(chain, 7, 2), 0, LESS, 3, LESS);

        named("Promise 18", "`name`: a law or assumption");
        none(ELEMENT, FURNISHED, (work, name) -> work.step(0, name, 3), -1, 0, 4, 40, 99, 101, 102, 103, LOWEST, HIGHEST);
        answers(NAMES_AT_THE_ENDS, work -> work.step(1, 0, 2), LESS);
        answers(NAMES_AT_THE_ENDS, work -> work.step(1, 99, 2), LESS);
        answers(NAMES_AT_THE_ENDS, work -> work.step(1, 100, 5), MORE);
        answers(NAMES_AT_THE_ENDS, work -> work.step(1, 102, 5), MORE);
        none(ELEMENT, NAMES_AT_THE_ENDS, (work, name) -> work.step(1, name, 2), -1, 103);

        named("Promise 18", "`register`: 0 to 9, the line");
        Calls bothEnds = then(then(FURNISHED, read(9, "p(p(a))")), work -> work.variable(0, 0));
        range(INDEX, bothEnds, (work, register) -> work.step(0, 7, register), 0, MORE, 9, LESS);

        named("Promise 18", "Returns the relation of the step.");
        answers(FURNISHED, work -> work.step(0, 3, 3), EQUAL);
        answers(FURNISHED, work -> work.step(1, 7, 2), LESS);
        answers(FURNISHED, work -> work.step(0, 7, 0), MORE);
    }

    private static void stepExceptions() {
        named("Promise 18", "Throws `IndexOutOfBoundsException` see section 10");
        refuses(INDEX, FURNISHED, work -> work.step(4, 4, 9));
        refuses(INDEX, FURNISHED, work -> work.step(2, 4, 10));

        named("Promise 18", "Throws `NoSuchElementException` see section 10");
        refuses(ELEMENT, FURNISHED, work -> work.step(2, 4, 9));
        refuses(ELEMENT, TWELVE_LINES, work -> work.step(2, 101, 0));
        refuses(ELEMENT, then(FURNISHED, Chainwork::giveUp), work -> work.step(1, 100, 5));

        named("Promise 18", "Throws `IllegalStateException` if the register is empty");
        refuses(STATE, FURNISHED, work -> work.step(0, 7, 9));

        named("Promise 18", "or the chain has no line");
        refuses(STATE, FURNISHED, work -> work.step(2, 7, 0));
        answers(then(FURNISHED, work -> work.begin(2, 0)), work -> work.step(2, 7, 2), LESS);

        named("Promise 18", "or 12");
        answers(ELEVEN_LINES, work -> work.step(2, 7, 2), LESS);
        refuses(STATE, TWELVE_LINES, work -> work.step(2, 7, 2));
        refuses(STATE, TWELVE_LINES, work -> work.step(2, 7, 1));

        named("Promise 18", "Throws `IllegalArgumentException` if the step is not right");
        refuses(ARGUMENT, FURNISHED, work -> work.step(1, 7, 1));
        refuses(ARGUMENT, FURNISHED, work -> work.step(1, 7, 6));
        refuses(ARGUMENT, FURNISHED, work -> work.step(1, 7, 3));
        refuses(ARGUMENT, FURNISHED, work -> work.step(1, 7, 0));
        answers(FURNISHED, work -> work.step(1, 7, 2), LESS);
    }

    private static void turn() {
        named("Promise 19", "Turns a chain round.");
        answers(then(FURNISHED, work -> work.turn(0)), work -> work.stepAt(0, 1, 0), 3);
        answers(then(FURNISHED, work -> work.turn(0)), work -> work.stepAt(0, 2, 0), 7);
        writes(FURNISHED, work -> {
            work.turn(3);
            work.take(3, 0, 0);
            return work.write(0);
        }, "b");

        named("Promise 19", "`chain`: 0 to 3");
        range(INDEX, FURNISHED, Chainwork::turn, 0, 3, 3, 2);

        named("Promise 19", "Returns how many lines it has.");
        answers(FURNISHED, work -> work.turn(2), 0);
        answers(FURNISHED, work -> work.turn(1), 1);
        answers(TWELVE_LINES, work -> work.turn(2), 12);

        named("Promise 19", "Throws `IndexOutOfBoundsException` see section 10");
        refuses(INDEX, NOTHING, work -> work.turn(4));
    }

    private static void joinArguments() {
        named("Promise 20", "Joins two chains: the lines of the first one, and behind them those of the second one "
            + "but its first one, which must be the last one of the first chain.");
        Calls joined = then(FURNISHED, work -> {
            work.begin(2, 2);
            work.step(2, 20, 3);
            work.join(0, 2, 1);
        });
        answers(joined, work -> work.lines(1), 4);
        answers(joined, work -> work.stepAt(1, 1, 0) + 100 * work.stepAt(1, 2, 0) + 10000 * work.stepAt(1, 3, 0), 200307);
        answers(joined, work -> work.relation(1), LESS);
        answers(joined, work -> work.lines(0) + 10 * work.lines(2), 23);

        Calls allA = then(FURNISHED, work -> {
            lineUp(work, 0, 2);
            lineUp(work, 3, 3);
        });
        named("Promise 20", "`first`: 0 to 3");
        range(INDEX, allA, (work, first) -> work.join(first, 1, 2), 0, 2, 3, 3);

        named("Promise 20", "`second`: 0 to 3");
        range(INDEX, allA, (work, second) -> work.join(1, second, 2), 0, 2, 3, 3);

        named("Promise 20", "`into`: 0 to 3, where the chain comes");
        range(INDEX, allA, (work, into) -> work.join(0, 3, into), 0, 4, 3, 4);
        answers(allA, work -> work.join(0, 3, 0) + 10 * work.lines(0) + 100 * work.lines(3), 344);
        answers(allA, work -> work.join(3, 3, 3) + 10 * work.lines(3), 55);

        named("Promise 20", "Returns how many lines it has.");
        answers(FURNISHED, work -> work.join(1, 1, 2), 1);
        answers(then(allA, work -> lineUp(work, 2, 10)), work -> work.join(3, 2, 1), 12);
    }

    private static void joinExceptions() {
        named("Promise 20", "Throws `IndexOutOfBoundsException` see section 10");
        refuses(INDEX, FURNISHED, work -> work.join(4, 2, 0));
        refuses(INDEX, FURNISHED, work -> work.join(2, 4, 0));
        refuses(INDEX, FURNISHED, work -> work.join(2, 2, 4));

        named("Promise 20", "Throws `IllegalStateException` if one has no line");
        refuses(STATE, FURNISHED, work -> work.join(2, 0, 1));
        refuses(STATE, FURNISHED, work -> work.join(0, 2, 1));
        refuses(STATE, FURNISHED, work -> work.join(2, 2, 1));
        answers(FURNISHED, work -> work.join(0, 0, 2), 5);

        named("Promise 20", "or there would be more than 12");
        answers(then(TWELVE_LINES, work -> lineUp(work, 3, 1)), work -> work.join(2, 3, 0), 12);
        answers(then(ELEVEN_LINES, work -> lineUp(work, 3, 2)), work -> work.join(2, 3, 0), 12);
        answers(then(TWELVE_LINES, work -> lineUp(work, 3, 1)), work -> work.join(3, 2, 0), 12);
        refuses(STATE, then(TWELVE_LINES, work -> lineUp(work, 3, 2)), work -> work.join(2, 3, 0));
        refuses(STATE, then(ELEVEN_LINES, work -> lineUp(work, 3, 3)), work -> work.join(3, 2, 0));
        refuses(STATE, TWELVE_LINES, work -> work.join(2, 2, 2));
        refuses(STATE, TWELVE_LINES, work -> work.join(2, 0, 1));

        named("Promise 20", "Throws `IllegalArgumentException` if these lines are not the same term");
        refuses(ARGUMENT, FURNISHED, work -> work.join(0, 1, 2));
        refuses(ARGUMENT, FURNISHED, work -> work.join(3, 1, 2));
        refuses(ARGUMENT, FURNISHED, work -> work.join(3, 3, 3));
        answers(FURNISHED, work -> work.join(1, 3, 2), 2);
    }

    private static void cutArguments() {
        named("Promise 21", "Cuts a piece out of a chain: its lines from one to another one.");
        Calls piece = then(FURNISHED, work -> work.cut(0, 1, 2, 2));
        answers(piece, work -> work.lines(2) + 10 * work.lines(0), 32);
        answers(piece, work -> work.stepAt(2, 1, 0), 3);
        writes(then(piece, work -> work.take(2, 0, 0)), work -> work.write(0), "p(p(a))");

        named("Promise 21", "`chain`: 0 to 3");
        range(INDEX, FURNISHED, (work, chain) -> work.cut(chain, 0, 0, 2), 0, 1, 3, 1);

        named("Promise 21", "`from`: the number of a line, from 0");
        range(INDEX, FURNISHED, (work, from) -> work.cut(0, from, 2, 2), 0, 3, 2, 1);
        range(INDEX, TWELVE_LINES, (work, from) -> work.cut(2, from, 11, 0), 0, 12, 11, 1);

        named("Promise 21", "`to`: the number of a line, from or behind it");
        range(INDEX, FURNISHED, (work, to) -> work.cut(0, 0, to, 2), 0, 1, 2, 3);
        range(INDEX, TWELVE_LINES, (work, to) -> work.cut(2, 0, to, 0), 0, 1, 11, 12);

        named("Promise 21", "`into`: 0 to 3, where the piece comes");
        range(INDEX, FURNISHED, (work, into) -> work.cut(0, 1, 2, into), 0, 2, 3, 2);
        answers(FURNISHED, work -> work.cut(0, 1, 2, 0) + 10 * work.lines(0), 22);

        named("Promise 21", "Returns how many lines it has.");
        answers(FURNISHED, work -> work.cut(1, 0, 0, 2), 1);
        answers(TWELVE_LINES, work -> work.cut(2, 0, 11, 2), 12);
    }

    private static void cutExceptions() {
        named("Promise 21", "Throws `IndexOutOfBoundsException` if there is no such chain or line");
        refuses(INDEX, FURNISHED, work -> work.cut(4, 1, 0, 0));
        refuses(INDEX, FURNISHED, work -> work.cut(0, 3, 2, 0));
        refuses(INDEX, FURNISHED, work -> work.cut(0, 2, -1, 0));
        refuses(INDEX, FURNISHED, work -> work.cut(0, 2, 1, 4));
        refuses(INDEX, FURNISHED, work -> work.cut(2, 0, 0, 0));

        named("Promise 21", "Throws `IllegalArgumentException` if to is less than from");
        refuses(ARGUMENT, FURNISHED, work -> work.cut(0, 1, 0, 2));
        refuses(ARGUMENT, FURNISHED, work -> work.cut(0, 2, 0, 0));
        answers(FURNISHED, work -> work.cut(0, 1, 1, 2), 1);
    }

    private static void take() {
        named("Promise 22", "Puts a line of a chain into a register.");
        writes(FURNISHED, work -> {
            work.take(0, 1, 9);
            return work.write(9);
        }, "p(p(a))");

        named("Promise 22", "`chain`: 0 to 3");
        range(INDEX, FURNISHED, (work, chain) -> work.take(chain, 0, 9), 0, 2, 3, 1);

        named("Promise 22", "`line`: the number of a line, from 0");
        range(INDEX, FURNISHED, (work, line) -> work.take(0, line, 9), 0, 2, 2, 2);
        range(INDEX, TWELVE_LINES, (work, line) -> work.take(2, line, 9), 0, 1, 11, 1);

        named("Promise 22", "`register`: 0 to 9");
        range(INDEX, FURNISHED, (work, register) -> work.take(0, 1, register), 0, 3, 9, 3);

        named("Promise 22", "Returns the size of the term.");
        Calls great = then(then(FURNISHED, read(9, tower(40))), work -> work.begin(2, 9));
        answers(great, work -> work.take(2, 0, 0), 40);
        answers(FURNISHED, work -> work.take(1, 0, 0), 1);

        named("Promise 22", "Throws `IndexOutOfBoundsException` if there is no such chain, line or register");
        refuses(INDEX, FURNISHED, work -> work.take(4, 0, 0));
        refuses(INDEX, FURNISHED, work -> work.take(0, 3, 0));
        refuses(INDEX, FURNISHED, work -> work.take(2, 0, 0));
        refuses(INDEX, FURNISHED, work -> work.take(0, 0, 10));
    }

    private static void lines() {
        named("Promise 41", "Counts the lines of a chain.");
        answers(FURNISHED, work -> work.lines(1), 1);

        named("Promise 41", "`chain`: 0 to 3");
        range(INDEX, FURNISHED, Chainwork::lines, 0, 3, 3, 2);

        named("Promise 41", "Returns how many there are.");
        answers(FURNISHED, work -> work.lines(2), 0);
        answers(TWELVE_LINES, work -> work.lines(2), 12);

        named("Promise 41", "Throws `IndexOutOfBoundsException` see section 10");
        refuses(INDEX, NOTHING, work -> work.lines(4));
    }

    private static void wrong() {
        named("Promise 42", "Returns the first line of a chain the step to which is not right.");
        answers(FURNISHED, work -> work.wrong(3), 1);
        answers(then(FURNISHED, work -> work.line(3, 7, 1)), work -> work.wrong(3), 1);
        answers(then(FURNISHED, work -> work.line(0, 7, 5)), work -> work.wrong(0), 3);
        answers(TWELVE_LINES, work -> work.wrong(2), 1);
        Calls lastIsWrong = then(FURNISHED, work -> {
            work.begin(2, 2);
            for (int line = 1; line < 11; line++) {
                work.step(2, 3, line % 2 == 1 ? 3 : 2);
            }
            work.line(2, 3, 1);
        });
        answers(lastIsWrong, work -> work.wrong(2), 11);

        named("Promise 42", "`chain`: 0 to 3");
        range(INDEX, FURNISHED, Chainwork::wrong, 0, NONE, 3, 1);

        named("Promise 42", "Returns its number; NONE without one.");
        answers(FURNISHED, work -> work.wrong(0), NONE);
        answers(FURNISHED, work -> work.wrong(1), NONE);
        answers(FURNISHED, work -> work.wrong(2), NONE);

        named("Promise 42", "Throws `IndexOutOfBoundsException` see section 10");
        refuses(INDEX, NOTHING, work -> work.wrong(4));
    }

    private static void relation() {
        named("Promise 43", "Returns the relation of a chain.");
        answers(FURNISHED, work -> work.relation(0), LESS);

        named("Promise 43", "`chain`: 0 to 3");
        range(INDEX, FURNISHED, Chainwork::relation, 0, LESS, 3, NONE);

        named("Promise 43", "Returns EQUAL to MORE; NONE if it is not right, too.");
        answers(FURNISHED, work -> work.relation(1), EQUAL);
        answers(then(FURNISHED, work -> work.turn(0)), work -> work.relation(0), MORE);
        answers(FURNISHED, work -> work.relation(2), NONE);
        answers(FURNISHED, work -> work.relation(3), NONE);

        named("Promise 43", "Throws `IndexOutOfBoundsException` see section 10");
        refuses(INDEX, NOTHING, work -> work.relation(4));
    }

    private static void stepAtArguments() {
        named("Promise 44", "Tells about the step to a line.");
        answers(FURNISHED, work -> work.stepAt(0, 1, 1), LESS);

        named("Promise 44", "`chain`: 0 to 3");
        range(INDEX, FURNISHED, (work, chain) -> work.stepAt(chain, 1, 0), 0, 7, 3, 3);

        named("Promise 44", "`line`: its number, from 1");
        range(INDEX, FURNISHED, (work, line) -> work.stepAt(0, line, 0), 1, 7, 2, 3);
        range(INDEX, TWELVE_LINES, (work, line) -> work.stepAt(2, line, 0), 1, 3, 11, 3);

        named("Promise 44", "`what`: 0 the name of the law, 1 the relation of the step, "
            + "2 1 if it is done forward, 0 if backward, 3 the number of the place, "
            + "4 the least name of a law or assumption by which the step would be right");
        range(ARGUMENT, FURNISHED, (work, what) -> work.stepAt(0, 1, what), 0, 7, 4, 3);
        answers(FURNISHED, work -> work.stepAt(0, 1, 2), 1);
        answers(then(FURNISHED, work -> work.turn(0)), work -> work.stepAt(0, 2, 2), 0);
        answers(FURNISHED, work -> work.stepAt(0, 1, 3), 0);
        Calls below = then(FURNISHED, work -> {
            work.begin(2, 4);
            Due.step(work, 2, 7, "q(a,p(b))");
        });
        answers(below, work -> work.stepAt(2, 1, 3), 2);
        answers(below, work -> work.stepAt(2, 1, 1), MORE);
        Calls last = then(then(FURNISHED, read(9, tower(40))), work -> {
            work.law(50, 5, EQUAL, 0);
            Due.read(work, 8, tower(40).replace('a', 'r'));
            work.begin(2, 8);
            work.step(2, 50, 9);
        });
        answers(last, work -> work.stepAt(2, 1, 3), 39);
    }

    private static void stepAtAnswers() {
        named("Promise 44", "Returns what is asked; NONE for 1 to 3 if the step is not right, for 4 if there is no such law.");
        answers(FURNISHED, work -> work.stepAt(3, 1, 0), 3);
        for (int number = 1; number < 5; number++) {
            int what = number;
            answers(FURNISHED, work -> work.stepAt(3, 1, what), NONE);
        }
        Calls namedWrongly = then(FURNISHED, work -> {
            work.begin(2, 0);
            work.line(2, 99, 2);
        });
        answers(namedWrongly, work -> work.stepAt(2, 1, 0), 99);
        answers(namedWrongly, work -> work.stepAt(2, 1, 1), NONE);
        answers(namedWrongly, work -> work.stepAt(2, 1, 4), 7);
        answers(then(namedWrongly, work -> work.law(0, 0, LESS, 2)), work -> work.stepAt(2, 1, 4), 0);
        answers(then(namedWrongly, work -> work.law(99, 0, LESS, 2)), work -> work.stepAt(2, 1, 1), LESS);
        Calls assumed = then(NAMES_AT_THE_ENDS, work -> {
            work.begin(2, 5);
            work.step(2, 102, 0);
        });
        answers(assumed, work -> work.stepAt(2, 1, 4), 100);
        answers(then(assumed, Chainwork::giveUp), work -> work.stepAt(2, 1, 1), NONE);
        Calls onlyTheLast = then(NAMES_AT_THE_ENDS, work -> {
            work.giveUp();
            work.assume(5, 1);
            work.begin(2, 5);
            work.step(2, 102, 1);
        });
        answers(onlyTheLast, work -> work.stepAt(2, 1, 4), 102);
    }

    private static void stepAtExceptions() {
        named("Promise 44", "Throws `IndexOutOfBoundsException` if there is no such chain or step");
        refuses(INDEX, FURNISHED, work -> work.stepAt(4, 1, 5));
        refuses(INDEX, FURNISHED, work -> work.stepAt(0, 0, 5));
        refuses(INDEX, FURNISHED, work -> work.stepAt(0, 3, 5));
        refuses(INDEX, FURNISHED, work -> work.stepAt(1, 1, 0));
        refuses(INDEX, FURNISHED, work -> work.stepAt(2, 0, 0));
        refuses(INDEX, FURNISHED, work -> work.stepAt(2, 1, 0));

        named("Promise 44", "Throws `IllegalArgumentException` see section 10");
        refuses(ARGUMENT, FURNISHED, work -> work.stepAt(0, 1, 5));
        refuses(ARGUMENT, FURNISHED, work -> work.stepAt(3, 1, -1));
    }

    private static void needs() {
        named("Promise 45", "Counts the different laws by which the steps of a chain are said to be done.");
        answers(FURNISHED, work -> work.needs(0), 2);
        answers(TWELVE_LINES, work -> work.needs(2), 1);

        named("Promise 45", "`chain`: 0 to 3");
        range(INDEX, FURNISHED, Chainwork::needs, 0, 2, 3, 1);

        named("Promise 45", "Returns how many names there are.");
        answers(FURNISHED, work -> work.needs(1), 0);
        answers(FURNISHED, work -> work.needs(2), 0);
        Calls elevenNames = then(FURNISHED, work -> {
            work.begin(2, 0);
            for (int name = 92; name <= 102; name++) {
                work.line(2, name, 0);
            }
        });
        answers(elevenNames, work -> work.needs(2), 11);
        answers(then(FURNISHED, work -> work.line(0, 7, 0)), work -> work.needs(0), 2);
        answers(then(FURNISHED, work -> work.line(0, 0, 0)), work -> work.needs(0), 3);

        named("Promise 45", "Throws `IndexOutOfBoundsException` see section 10");
        refuses(INDEX, NOTHING, work -> work.needs(4));
    }
}
