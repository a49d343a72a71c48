/** Promises 27 to 32 and section 9, sentence by sentence: the text and the output. */
final class TextSentences extends Sentence {
    private static final String SECTION = "Section 9";
    private static final Calls TEXT_OF_199 = then(FURNISHED, work -> Due.type(work, " ".repeat(198) + "a"));
    private static final Calls TEXT_OF_200 = then(TEXT_OF_199, work -> work.type(' '));

    private TextSentences() { }

    static void all() {
        type();
        typeExceptions();
        clearText();
        errorPlace();
        write();
        writeLaw();
        outputAt();
        room();
        letters();
        brackets();
        blanks();
        errorsEarlyAndLate();
        great();
        outputWithoutBlanks();
    }

    private static Calls text(String text) {
        return then(FURNISHED, work -> Due.type(work, text));
    }

    private static void type() {
        named("Promise 27", "Puts up to eight bytes behind the text: the bytes of a number, the highest first, without those that are 0.");
        answers(NOTHING, work -> work.type(0x6161616161616161L), 8);
        answers(NOTHING, work -> work.type(0), 0);
        answers(NOTHING, work -> work.type(-1), 8);
        answers(NOTHING, work -> work.type(Long.MIN_VALUE), 1);
        answers(NOTHING, work -> work.type(0x6100000000000061L), 2);
        answers(NOTHING, work -> work.type(0x0061006100610061L), 4);
        answers(then(FURNISHED, work -> {
            work.clearText();
            work.type(0x7000280062002900L);
        }), work -> work.read(9), 2);
        answers(then(FURNISHED, work -> work.type(')')), work -> work.read(9), 2);

        named("Promise 27", "`bytes`: the number");
        answers(NOTHING, work -> work.type(Long.MAX_VALUE), 8);
        answers(NOTHING, work -> work.type(1), 1);
        answers(NOTHING, work -> work.type(256), 1);
        answers(NOTHING, work -> work.type(257), 2);

        named("Promise 27", "Returns the length of the text.");
        answers(NOTHING, work -> work.type('a') + work.type('b'), 3);
        answers(TEXT_OF_199, work -> work.type('a'), 200);
    }

    private static void typeExceptions() {
        named("Promise 27", "Throws `IllegalStateException` if it would have more than 200 bytes");
        answers(TEXT_OF_199, work -> work.type(' '), 200);
        refuses(STATE, TEXT_OF_199, work -> work.type(257));
        refuses(STATE, TEXT_OF_200, work -> work.type(1));
        refuses(STATE, TEXT_OF_200, work -> work.type(-1));
        answers(TEXT_OF_200, work -> work.type(0), 200);
        Calls textOf192 = then(FURNISHED, work -> Due.type(work, " ".repeat(192)));
        answers(textOf192, work -> work.type(-1), 200);
        refuses(STATE, then(textOf192, work -> work.type(' ')), work -> work.type(-1));
        answers(then(textOf192, work -> work.type(' ')), work -> work.type(0x0061616161616161L), 200);
    }

    private static void clearText() {
        named("Promise 28", "Empties the text.");
        answers(TEXT_OF_200, work -> work.clearText() + work.errorPlace(), 200);
        answers(TEXT_OF_200, work -> work.clearText() + work.clearText(), 200);

        named("Promise 28", "Returns its length before.");
        answers(NOTHING, Chainwork::clearText, 0);
        answers(TEXT_OF_200, Chainwork::clearText, 200);
        answers(FURNISHED, Chainwork::clearText, 3);
    }

    private static void errorPlace() {
        named("Promise 29", "Returns the place of the error of the text.");
        answers(text("p(a,"), Chainwork::errorPlace, 3);

        named("Promise 29", "Returns the index of a byte, or the length of the text; NONE without an error.");
        answers(text("x"), Chainwork::errorPlace, 0);
        answers(then(TEXT_OF_199, work -> work.type('a')), Chainwork::errorPlace, 199);
        answers(FURNISHED, Chainwork::errorPlace, 3);
        answers(NOTHING, Chainwork::errorPlace, 0);
        answers(text(" ".repeat(200)), Chainwork::errorPlace, 200);
        answers(TEXT_OF_200, Chainwork::errorPlace, NONE);
        answers(text("a"), Chainwork::errorPlace, NONE);
    }

    private static void write() {
        named("Promise 30", "Writes a term to the output, in place of what was there.");
        writes(FURNISHED, work -> work.write(7), "q(p(a),b)");
        refuses(ELEMENT, then(FURNISHED, work -> work.write(2)), work -> work.outputAt(4));

        named("Promise 30", "`register`: 0 to 9");
        range(INDEX, FILLED, Chainwork::write, 0, 1, 9, 1);

        named("Promise 30", "Returns the length of the output.");
        answers(FURNISHED, work -> work.write(0), 1);
        answers(then(FURNISHED, read(9, tower(40))), work -> work.write(9), 118);

        named("Promise 30", "Throws `IndexOutOfBoundsException` see section 10");
        refuses(INDEX, FURNISHED, work -> work.write(10));

        named("Promise 30", "Throws `IllegalStateException` see section 10");
        refuses(STATE, FURNISHED, work -> work.write(9));
        answers(FILLED, work -> work.write(9), 1);
    }

    private static void writeLaw() {
        named("Promise 31", "Writes a law to the output, in place of what was there: its left term, = or < , its right term, and, "
            + "if it has a condition, a semicolon, the first term of it, < and the second one.");
        writes(FURNISHED, work -> work.writeLaw(3), "p(p(a))=p(a)");
        writes(FURNISHED, work -> work.writeLaw(7), "a<p(a)");
        writes(FURNISHED, work -> work.writeLaw(32), "q(a,b)<p(a);b<a");
        refuses(ELEMENT, then(FURNISHED, work -> work.writeLaw(7)), work -> work.outputAt(6));

        Calls ends = then(FURNISHED, work -> {
            work.law(0, 0, EQUAL, 0);
            work.law(99, 0, LESS, 2);
        });
        named("Promise 31", "`name`: a law");
        range(ELEMENT, ends, Chainwork::writeLaw, 0, 3, 99, 6);
        none(ELEMENT, FURNISHED, Chainwork::writeLaw, -1, 0, 4, 40, 99, 100);

        named("Promise 31", "Returns the length of the output.");
        Calls greatest = then(then(FURNISHED, read(9, tower(40))), work -> {
            work.law(50, 9, LESS, 9);
            work.condition(50, 9, 9);
        });
        answers(greatest, work -> work.writeLaw(50), 4 * 118 + 3);
        answers(greatest, work -> work.writeLaw(50) - 475 + work.outputAt(474), ')');
        answers(FURNISHED, work -> work.writeLaw(7), 6);

        named("Promise 31", "Throws `NoSuchElementException` see section 10");
        refuses(ELEMENT, NOTHING, work -> work.writeLaw(0));
        refuses(ELEMENT, FURNISHED, work -> work.writeLaw(40));
        refuses(ELEMENT, FURNISHED, work -> work.writeLaw(100));
    }

    private static void outputAt() {
        named("Promise 32", "Returns a character of the output, which is empty at first.");
        answers(FURNISHED, work -> work.outputAt(6), '<');
        none(ELEMENT, NOTHING, Chainwork::outputAt, 0, -1, 1);

        named("Promise 32", "`index`: from 0");
        range(ELEMENT, FURNISHED, Chainwork::outputAt, 0, 'q', 14, 'b');

        named("Promise 32", "Returns its code.");
        answers(FURNISHED, work -> work.write(8) + work.outputAt(0), 'd');
        answers(FURNISHED, work -> work.outputAt(12), 'a');

        named("Promise 32", "Throws `NoSuchElementException` if there is none");
        refuses(ELEMENT, FURNISHED, work -> work.outputAt(15));
        refuses(ELEMENT, then(FURNISHED, work -> work.write(0)), work -> work.outputAt(1));
        answers(then(FURNISHED, work -> work.write(0)), work -> work.outputAt(0), 'a');
    }

    private static void room() {
        named(SECTION, "The text has at most 200 bytes.");
        answers(TEXT_OF_200, Chainwork::clearText, 200);
        answers(TEXT_OF_200, work -> work.read(9), 1);
        refuses(STATE, TEXT_OF_200, work -> work.type('a'));
        answers(then(TEXT_OF_200, Chainwork::clearText), work -> work.type('a'), 1);
    }

    private static void letters() {
        named(SECTION, "A term is written as a letter a to d, or the letter of its sign, and, if this has places, a bracket (, "
            + "its terms with a comma between two of them, and a bracket ).");
        for (String fine : new String[] {"a", "d", "r", "p(d)", "q(a,d)", "q(q(r,r),p(r))"}) {
            answers(text(fine), Chainwork::errorPlace, NONE);
        }
        for (int letter = 1; letter < 256; letter++) {
            boolean isFine = letter >= 'a' && letter <= 'd' || letter == 'r';
            boolean isBeginning = letter == ' ' || letter == 'p' || letter == 'q';
            Calls typed = typed(letter);
            answers(typed, Chainwork::errorPlace, isFine ? NONE : isBeginning ? 1 : 0);
        }
        named(SECTION, "(a letter of a sign that there is not does not fit");
        answers(text("s"), Chainwork::errorPlace, 0);
        answers(then(FOUR_SIGNS, work -> Due.type(work, "s")), Chainwork::errorPlace, NONE);
        answers(then(FOUR_SIGNS, work -> Due.type(work, "t")), Chainwork::errorPlace, 0);
        answers(work -> work.type('p'), Chainwork::errorPlace, 0);
        answers(text("q(p(s),a)"), Chainwork::errorPlace, 4);
        answers(then(FOUR_SIGNS, work -> {
            Due.type(work, "s");
            work.undo();
        }), Chainwork::errorPlace, 0);
    }

    private static Calls typed(int letter) {
        return then(FURNISHED, work -> {
            work.clearText();
            work.type(letter);
        });
    }

    private static void brackets() {
        named(SECTION, "if this has places, a bracket (, its terms with a comma between two of them, and a bracket )");
        answers(text("pa"), Chainwork::errorPlace, 1);
        answers(text("p)"), Chainwork::errorPlace, 1);
        answers(text("p()"), Chainwork::errorPlace, 2);
        answers(text("p(,a)"), Chainwork::errorPlace, 2);
        answers(text("p((a))"), Chainwork::errorPlace, 2);
        answers(text("p(a,b)"), Chainwork::errorPlace, 3);
        answers(text("p(a b)"), Chainwork::errorPlace, 4);
        answers(text("p(a))"), Chainwork::errorPlace, 4);
        answers(text("p(a),"), Chainwork::errorPlace, 4);
        answers(text("p(a)a"), Chainwork::errorPlace, 4);
        answers(text("q(a)"), Chainwork::errorPlace, 3);
        answers(text("q(a,)"), Chainwork::errorPlace, 4);
        answers(text("q(a,,b)"), Chainwork::errorPlace, 4);
        answers(text("q(a,b,c)"), Chainwork::errorPlace, 5);
        answers(text("q(p(a,b),c)"), Chainwork::errorPlace, 5);
        answers(text("r()"), Chainwork::errorPlace, 1);
        answers(text("r(a)"), Chainwork::errorPlace, 1);
        answers(text("a(b)"), Chainwork::errorPlace, 1);
        answers(text("(a)"), Chainwork::errorPlace, 0);
        answers(text(",a"), Chainwork::errorPlace, 0);
        answers(text(")"), Chainwork::errorPlace, 0);
        answers(text("ab"), Chainwork::errorPlace, 1);
    }

    private static void blanks() {
        named(SECTION, "Blanks (32) may stand anywhere.");
        answers(text("  q ( p  ( a ) ,b )  "), Chainwork::errorPlace, NONE);
        answers(text("  q ( p  ( a ) ,b )  "), work -> work.read(9), 4);
        answers(text(" p a"), Chainwork::errorPlace, 3);
        for (int letter : new int[] {1, 9, 10, 13, 31, 33, 160, 255}) {
            answers(then(text("p("), work -> work.type(letter << 16 | 'a' << 8 | ')')), Chainwork::errorPlace, 2);
        }
        answers(then(text("p("), work -> work.type(32 << 16 | 'a' << 8 | ')')), Chainwork::errorPlace, NONE);
    }

    private static void errorsEarlyAndLate() {
        named(SECTION, "The error is the first byte that does not fit (a letter of a sign that there is not does not fit, "
            + "nor a letter with which the term would be greater than 40: of more than 40 letters the 41st one), "
            + "or the length of the text, if it ends too early.");
        answers(text("x(y,z"), Chainwork::errorPlace, 0);
        answers(text("p(x,y"), Chainwork::errorPlace, 2);
        for (String early : new String[] {"", " ", "p", "p ", "p(", "p(a", "q(a,", "q(a", "q(p(a)", "q(p(a),b", "q(p(a),p(b)"}) {
            answers(text(early), Chainwork::errorPlace, early.length());
        }
        answers(text("p(a)"), Chainwork::errorPlace, NONE);
        answers(text("p(a)  "), Chainwork::errorPlace, NONE);
    }

    private static void great() {
        named(SECTION, "of more than 40 letters the 41st one");
        answers(text(tower(40)), Chainwork::errorPlace, NONE);
        answers(text(tower(41)), Chainwork::errorPlace, 80);
        answers(text("p(".repeat(40)), Chainwork::errorPlace, 80);
        answers(text("p(".repeat(41)), Chainwork::errorPlace, 80);
        answers(text("p( ".repeat(40) + "a"), Chainwork::errorPlace, 120);
        String twenty = "q(".repeat(19) + "a" + ",b)".repeat(19);
        answers(text("q(" + twenty + ",a)"), Chainwork::errorPlace, "q(".length() + twenty.length() + 1);
        answers(text("p(" + twenty + ")"), Chainwork::errorPlace, NONE);
        answers(text("p(" + twenty + ")"), work -> work.read(9), 40);
        answers(text("q(" + tower(19) + "," + tower(20) + ")"), work -> work.read(9), 40);
        answers(text("q(" + tower(20) + "," + tower(20) + ")"), Chainwork::errorPlace, 2 + 58 + 1 + 2 * 19);
        answers(then(FOUR_SIGNS, work -> Due.type(work, "q(".repeat(40) + "s")), Chainwork::errorPlace, 80);
        // a letter that would be too much and does not fit anyhow is the error, too
        answers(text("p(".repeat(40) + "x"), Chainwork::errorPlace, 80);
        answers(text("p(".repeat(40) + ")"), Chainwork::errorPlace, 80);
    }

    private static void outputWithoutBlanks() {
        named(SECTION, "What is written to the output is written so, without blanks.");
        writes(text(" q ( p ( a ) , r ) "), work -> {
            work.read(9);
            return work.write(9);
        }, "q(p(a),r)");
        String wide = "q(q(q(a,p(b)),q(r,c)),q(d,p(q(a,b))))";
        writes(then(FURNISHED, read(9, wide)), work -> work.write(9), wide);
        writes(then(FURNISHED, read(9, tower(40))), work -> work.write(9), tower(40));
    }
}
