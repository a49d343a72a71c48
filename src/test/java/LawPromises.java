import java.util.NoSuchElementException;

/** Promises 7 to 15, 31 and 37 to 40: laws, assumptions, the book. */
public final class LawPromises {
    private static final Class<IndexOutOfBoundsException> INDEX = IndexOutOfBoundsException.class;
    private static final Class<IllegalArgumentException> ARGUMENT = IllegalArgumentException.class;
    private static final Class<IllegalStateException> STATE = IllegalStateException.class;
    private static final Class<NoSuchElementException> ELEMENT = NoSuchElementException.class;

    private LawPromises() { }

    public static void main(String[] args) {
        promise7Law();
        promise7Most();
        promise8Condition();
        promise8Refused();
        promise9Equivalence();
        promise10And40Assume();
        promise11GiveUp();
        promise12End();
        promise12Refused();
        promise13Lemma();
        promise13Relations();
        promise13RestsOnGranters();
        promise14Cases();
        promise14Refused();
        promise15Across();
        promise15Refused();
        promise31WriteLaw();
        promise37To39Book();
        Due.end("LawPromises");
    }

    /** Signs p(rises,rises), q(falls), r; registers 0 a, 1 b, 2 p(a,b), 3 p(b,a). */
    private static Chainwork work() {
        Chainwork work = new Chainwork();
        work.sign(2, 0, 0);
        work.sign(1, 1, 0);
        work.sign(0, 0, 0);
        work.variable(0, 0);
        work.variable(1, 1);
        work.term(2, 0, 0, 1);
        work.term(3, 0, 1, 0);
        return work;
    }

    private static void promise7Law() {
        Chainwork work = work();
        Due.same("7: the first one", work.law(99, 2, Chainwork.EQUAL, 3), 1);
        Due.same("7: the second one", work.law(0, 2, Chainwork.LESS, 2), 2);
        Due.same("7: its relation", work.lawAt(0, 0), Chainwork.LESS);
        Due.same("7: it is told", work.lawAt(0, 1), 0);
        Due.same("7: without a condition", work.lawAt(0, 2), 0);
        Due.same("7: on nothing", work.lawAt(0, 3), 0);
        Due.thrown("7: name 100", ARGUMENT, () -> work.law(100, 10, 0, 0));
        Due.thrown("7: name -1", ARGUMENT, () -> work.law(-1, 0, 0, 0));
        Due.thrown("7: relation MORE", ARGUMENT, () -> work.law(1, 0, 2, 10));
        Due.thrown("7: relation -1", ARGUMENT, () -> work.law(1, 0, -1, 0));
        Due.thrown("7: left 10", INDEX, () -> work.law(1, 10, 0, 9));
        Due.thrown("7: right -1", INDEX, () -> work.law(1, 9, 0, -1));
        Due.thrown("7: left empty", STATE, () -> work.law(1, 9, 0, 0));
        Due.thrown("7: right empty", STATE, () -> work.law(1, 0, 0, 9));
        Due.thrown("7: the name is taken", STATE, () -> work.law(99, 0, 0, 1));
        work.equivalence(50, 0, 1, 0, 1);
        Due.thrown("7: an equivalence has it", STATE, () -> work.law(50, 0, 0, 1));
        Due.same("7: still two", work.laws(), 2);
        work.variable(2, 3);
        work.writeLaw(99);
        Due.text("7: a law keeps its terms", Due.output(work, 13), "p(a,b)=p(b,a)");
    }

    private static void promise7Most() {
        Chainwork work = work();
        for (int i = 0; i < 20; i++) {
            Due.same("7: laws", work.law(3 * i, 0, 0, 0), i + 1);
        }
        Due.thrown("7: the 21st one", STATE, () -> work.law(1, 0, 0, 0));
        Due.thrown("7: the argument comes first", ARGUMENT, () -> work.law(1, 0, 2, 0));
        Due.thrown("7: the index comes first", INDEX, () -> work.law(1, 10, 0, 0));
    }

    private static void promise8Condition() {
        Chainwork work = work();
        work.law(4, 2, Chainwork.LESS, 0);
        Due.no("8: it had none", work.condition(4, 0, 1));
        Due.same("8: it has one", work.lawAt(4, 2), 1);
        Due.yes("8: it had one", work.condition(4, 1, 0));
        Due.text("8: the new one stands", Due.output(work, work.writeLaw(4)), "p(a,b)<a;b<a");
        Due.same("8: the relation stays", work.lawAt(4, 0), Chainwork.LESS);
        work.undo();
        Due.text("8: undo", Due.output(work, work.writeLaw(4)), "p(a,b)<a;a<b");
        Due.read(work, 5, "r");
        Due.yes("8: a condition without variables", work.condition(4, 5, 5));
        work.law(6, 0, Chainwork.LESS, 1);
        work.condition(6, 1, 1);
        Due.text("8: a variable of the right term", Due.output(work, work.writeLaw(6)), "a<b;b<b");
    }

    private static void promise8Refused() {
        Chainwork work = work();
        work.law(4, 2, Chainwork.EQUAL, 3);
        Due.thrown("8: no such law", ELEMENT, () -> work.condition(5, 10, 10));
        Due.thrown("8: name 100", ELEMENT, () -> work.condition(100, 0, 0));
        Due.thrown("8: name -1", ELEMENT, () -> work.condition(-1, 0, 0));
        Due.thrown("8: first 10", INDEX, () -> work.condition(4, 10, 9));
        Due.thrown("8: second -1", INDEX, () -> work.condition(4, 9, -1));
        Due.thrown("8: first empty", STATE, () -> work.condition(4, 9, 0));
        Due.thrown("8: second empty", STATE, () -> work.condition(4, 0, 9));
        work.variable(5, 2);
        Due.thrown("8: c stands in none", ARGUMENT, () -> work.condition(4, 5, 0));
        Due.thrown("8: c in the second one", ARGUMENT, () -> work.condition(4, 0, 5));
        Due.begin(work, 0, "p(a,b)");
        Due.step(work, 0, 4, "p(b,a)");
        work.lemma(7, 0);
        Due.thrown("8: a proved law", STATE, () -> work.condition(7, 0, 1));
        Due.thrown("8: a law rests on it", STATE, () -> work.condition(4, 0, 1));
        Due.thrown("8: the state is listed first", STATE, () -> work.condition(4, 5, 5));
        work.equivalence(9, 0, 1, 0, 1);
        Due.thrown("8: an equivalence is no law", ELEMENT, () -> work.condition(9, 0, 1));
        work.undo();
        work.undo();
        Due.no("8: none rests on it any more", work.condition(4, 0, 1));
    }

    private static void promise9Equivalence() {
        Chainwork work = work();
        Due.same("9: one", work.equivalence(9, 0, 1, 2, 3), 1);
        Due.thrown("9: name 100", ARGUMENT, () -> work.equivalence(100, 10, 0, 0, 0));
        Due.thrown("9: name -1", ARGUMENT, () -> work.equivalence(-1, 0, 0, 0, 0));
        Due.thrown("9: first", INDEX, () -> work.equivalence(1, 10, 9, 0, 0));
        Due.thrown("9: second", INDEX, () -> work.equivalence(1, 0, -1, 0, 0));
        Due.thrown("9: third", INDEX, () -> work.equivalence(1, 9, 0, 10, 0));
        Due.thrown("9: fourth", INDEX, () -> work.equivalence(1, 9, 0, 0, 10));
        for (int i = 0; i < 4; i++) {
            int empty = i;
            Due.thrown("9: an empty register", STATE, () -> work.equivalence(1, empty == 0 ? 9 : 0, empty == 1 ? 9 : 0,
                empty == 2 ? 9 : 0, empty == 3 ? 9 : 0));
        }
        Due.thrown("9: its name is taken", STATE, () -> work.equivalence(9, 0, 0, 0, 0));
        work.law(8, 0, 0, 0);
        Due.thrown("9: a law has the name", STATE, () -> work.equivalence(8, 0, 0, 0, 0));
        Due.same("9: two", work.equivalence(0, 0, 0, 0, 0), 2);
        Due.same("9: three", work.equivalence(1, 0, 0, 0, 0), 3);
        Due.same("9: four", work.equivalence(99, 0, 0, 0, 0), 4);
        Due.thrown("9: five", STATE, () -> work.equivalence(2, 0, 0, 0, 0));
        Due.same("9: they are no laws", work.laws(), 1);
        work.undo();
        Due.same("9: four again", work.equivalence(98, 0, 0, 0, 0), 4);
    }

    private static void promise10And40Assume() {
        Chainwork work = work();
        Due.same("40: none", work.open(), 0);
        Due.same("10: the first one", work.assume(0, 1), 100);
        Due.same("10: the second one", work.assume(2, 1), 101);
        Due.same("40: two", work.open(), 2);
        Due.same("10: the third one", work.assume(0, 1), 102);
        Due.thrown("10: a fourth one", STATE, () -> work.assume(0, 1));
        Due.thrown("10: first 10", INDEX, () -> work.assume(10, 9));
        Due.thrown("10: second -1", INDEX, () -> work.assume(9, -1));
        Due.same("40: three", work.open(), 3);
        work.giveUp();
        Due.thrown("10: first empty", STATE, () -> work.assume(9, 0));
        Due.thrown("10: second empty", STATE, () -> work.assume(0, 9));
        Due.same("10: its number is free again", work.assume(1, 0), 102);
        Due.same("10: assumptions are no laws", work.laws(), 0);
        // its only instance is itself: b is not another variable's name in it
        Due.begin(work, 0, "p(a,c)");
        Due.same("10: a goes to b", Due.step(work, 0, 100, "p(b,c)"), Chainwork.LESS);
        Due.read(work, 8, "p(b,d)");
        Due.thrown("10: c does not go to d", ARGUMENT, () -> work.step(0, 100, 8));
    }

    private static void promise11GiveUp() {
        Chainwork work = work();
        Due.thrown("11: none is open", ELEMENT, work::giveUp);
        work.assume(0, 1);
        work.assume(1, 0);
        Due.begin(work, 0, "a");
        Due.line(work, 0, 100, "b");
        Due.line(work, 0, 101, "a");
        Due.same("11: all is right", work.wrong(0), Chainwork.NONE);
        Due.same("11: one is left", work.giveUp(), 1);
        Due.same("11: its steps are right no more", work.wrong(0), 2);
        Due.same("11: none is left", work.giveUp(), 0);
        Due.same("11: nor that of the first one", work.wrong(0), 1);
        Due.thrown("11: no more", ELEMENT, work::giveUp);
        work.undo();
        work.undo();
        Due.same("11: undo opens them", work.open(), 2);
        Due.same("11: and all is right", work.wrong(0), Chainwork.NONE);
    }

    private static void promise12End() {
        Chainwork work = work();
        Due.law(work, 1, "p(a,a)", Chainwork.EQUAL, "a");
        Due.assume(work, "a", "b");
        Due.begin(work, 2, "b");
        Due.step(work, 2, 1, "p(b,b)");
        Due.step(work, 2, 100, "p(a,b)");
        Due.same("12: MORE", work.relation(2), Chainwork.MORE);
        Due.same("12: the law is a LESS one", work.end(30, 2), Chainwork.LESS);
        Due.text("12: the law", Due.output(work, work.writeLaw(30)), "p(a,b)<b;a<b");
        Due.same("12: it is proved", work.lawAt(30, 1), 1);
        Due.same("12: no assumption is open", work.open(), 0);
        Due.same("12: it rests on one law", work.lawAt(30, 3), 1);
        Due.yes("12: on law 1", work.rests(30, 1));
        Due.same("12: the chain stays", work.lines(2), 3);
        Due.same("12: but is right no more", work.wrong(2), 2);
        Due.same("12: undo", work.undo() >= 0 ? work.open() : -9, 1);
        Due.same("12: the law is gone", work.laws(), 1);
        Due.begin(work, 1, "p(a,b)");
        Due.step(work, 1, 100, "p(b,b)");
        Due.step(work, 1, 1, "b");
        Due.step(work, 1, 1, "p(b,b)");
        work.cut(1, 2, 3, 1);
        Due.read(work, 5, "a");
        Due.same("12: an EQUAL one needs no use of it", thrownOrEnd(work), -2);
        Due.same("12: with b in both terms", endAbout(work, "b", "b"), Chainwork.EQUAL);
        Due.text("12: the EQUAL law", Due.output(work, work.writeLaw(31)), "b=p(b,b);b<b");
        Due.assume(work, "r", "b");
        Due.same("12: the greatest name", work.end(99, 1), Chainwork.EQUAL);
        Due.assume(work, "b", "r");
        Due.same("12: the least name", work.end(0, 1), Chainwork.EQUAL);
    }

    /** The assumption a<b is open, but a stands in neither line of chain 1. */
    private static int thrownOrEnd(Chainwork work) {
        try {
            return work.end(31, 1);
        } catch (IllegalStateException e) {
            return -2;
        }
    }

    private static int endAbout(Chainwork work, String first, String second) {
        Due.assume(work, first, second);
        return work.end(31, 1);
    }

    private static void promise12Refused() {
        Chainwork work = work();
        Due.thrown("12: name 100", ARGUMENT, () -> work.end(100, 4));
        Due.thrown("12: name -1", ARGUMENT, () -> work.end(-1, 0));
        Due.thrown("12: chain 4", INDEX, () -> work.end(1, 4));
        Due.thrown("12: chain -1", INDEX, () -> work.end(1, -1));
        Due.thrown("12: none is open", ELEMENT, () -> work.end(1, 0));
        Due.law(work, 1, "p(a,a)", Chainwork.EQUAL, "a");
        Due.assume(work, "a", "b");
        Due.thrown("12: no line", STATE, () -> work.end(2, 0));
        Due.begin(work, 0, "a");
        Due.line(work, 0, 100, "b");
        Due.thrown("12: the name is taken", STATE, () -> work.end(1, 0));
        Due.assume(work, "a", "c");
        Due.thrown("12: the first assumption does not count", STATE, () -> work.end(2, 0));
        Due.line(work, 0, 101, "c");
        Due.thrown("12: nor with the latest one", STATE, () -> work.end(2, 0));
        Due.begin(work, 1, "a");
        Due.line(work, 1, 101, "c");
        Due.line(work, 1, 101, "a");
        Due.same("12: LESS and MORE", work.relation(1), Chainwork.NONE);
        Due.thrown("12: the relation is NONE", STATE, () -> work.end(2, 1));
        work.cut(1, 0, 1, 1);
        Due.same("12: right with the latest one alone", work.end(2, 1), Chainwork.LESS);
        Due.text("12: its condition", Due.output(work, work.writeLaw(2)), "a<c;a<c");
        Due.same("12: the first one is open", work.open(), 1);
        for (int i = 0; i < 18; i++) {
            work.law(40 + i, 0, 0, 0);
        }
        work.begin(1, 0);
        Due.line(work, 1, 100, "b");
        Due.same("12: it is right", work.relation(1), Chainwork.LESS);
        Due.thrown("12: the 21st law", STATE, () -> work.end(3, 1));
    }

    private static void promise13Lemma() {
        Chainwork work = work();
        Due.thrown("13: name 100", ARGUMENT, () -> work.lemma(100, 4));
        Due.thrown("13: name -1", ARGUMENT, () -> work.lemma(-1, 0));
        Due.thrown("13: chain 4", INDEX, () -> work.lemma(0, 4));
        Due.thrown("13: chain -1", INDEX, () -> work.lemma(0, -1));
        Due.thrown("13: no line", STATE, () -> work.lemma(0, 0));
        Due.law(work, 5, "p(a,b)", Chainwork.EQUAL, "p(b,a)");
        work.equivalence(6, 0, 0, 0, 0);
        Due.begin(work, 0, "p(q(a),r)");
        Due.line(work, 0, 6, "p(r,q(a))");
        Due.thrown("13: a step by an equivalence's name", STATE, () -> work.lemma(0, 0));
        Due.begin(work, 0, "p(q(a),r)");
        Due.step(work, 0, 5, "p(r,q(a))");
        Due.thrown("13: the name is taken by a law", STATE, () -> work.lemma(5, 0));
        Due.thrown("13: the name is taken by an equivalence", STATE, () -> work.lemma(6, 0));
        Due.same("13: EQUAL", work.lemma(0, 0), Chainwork.EQUAL);
        Due.text("13: the law", Due.output(work, work.writeLaw(0)), "p(q(a),r)=p(r,q(a))");
        Due.same("13: it is proved", work.lawAt(0, 1), 1);
        Due.same("13: without a condition", work.lawAt(0, 2), 0);
        Due.begin(work, 1, "q(r)");
        Due.same("13: a chain of one line", work.lemma(99, 1), Chainwork.EQUAL);
        Due.same("13: rests on none", work.lawAt(99, 3), 0);
        Due.assume(work, "a", "b");
        Due.begin(work, 2, "a");
        Due.step(work, 2, 100, "b");
        Due.thrown("13: assumptions do not count", STATE, () -> work.lemma(1, 2));
        for (int i = 0; i < 17; i++) {
            work.law(40 + i, 0, 0, 0);
        }
        Due.same("13: 20 laws", work.laws(), 20);
        Due.thrown("13: the 21st law", STATE, () -> work.lemma(1, 0));
    }

    private static void promise13Relations() {
        Chainwork work = work();
        Due.law(work, 1, "a", Chainwork.LESS, "p(a,b)");
        Due.law(work, 2, "p(a,b)", Chainwork.EQUAL, "p(b,a)");
        Due.begin(work, 0, "a");
        Due.step(work, 0, 1, "p(a,b)");
        Due.step(work, 0, 2, "p(b,a)");
        Due.same("13: LESS", work.lemma(10, 0), Chainwork.LESS);
        Due.text("13: from the first to the last one", Due.output(work, work.writeLaw(10)), "a<p(b,a)");
        Due.begin(work, 1, "q(a)");
        Due.same("13: what falls", Due.step(work, 1, 1, "q(p(a,b))"), Chainwork.MORE);
        Due.same("13: MORE makes LESS", work.lemma(11, 1), Chainwork.LESS);
        Due.text("13: turned round", Due.output(work, work.writeLaw(11)), "q(p(a,b))<q(a)");
        Due.same("13: both laws", work.lawAt(10, 3), 2);
        Due.same("13: the least one", work.lawAt(10, 4), 1);
        Due.begin(work, 2, "a");
        Due.step(work, 2, 1, "p(a,b)");
        Due.step(work, 2, 1, "a");
        Due.thrown("13: LESS and MORE", STATE, () -> work.lemma(12, 2));
        Due.begin(work, 3, "a");
        Due.step(work, 3, 10, "p(b,a)");
        work.lemma(12, 3);
        Due.same("13: on those of that law, too", work.lawAt(12, 3), 3);
        Due.yes("13: on law 10", work.rests(12, 10));
        Due.yes("13: on law 1", work.rests(12, 1));
        Due.no("13: not on itself", work.rests(12, 12));
        Due.no("13: not on law 11", work.rests(12, 11));
    }

    private static void promise13RestsOnGranters() {
        Chainwork work = work();
        Due.law(work, 1, "p(a,b)", Chainwork.EQUAL, "a");
        Due.condition(work, 1, "a", "b");
        Due.law(work, 9, "c", Chainwork.LESS, "q(c)");
        Due.law(work, 8, "q(a)", Chainwork.EQUAL, "a");
        Due.begin(work, 0, "p(r,q(r))");
        Due.step(work, 0, 1, "r");
        Due.same("13: proved with a condition", work.lemma(20, 0), Chainwork.EQUAL);
        Due.yes("13: on the law of the step", work.rests(20, 1));
        Due.yes("13: on the least law that grants, the EQUAL one backward", work.rests(20, 8));
        Due.no("13: not on another one that grants", work.rests(20, 9));
        Due.begin(work, 1, "p(r,r)");
        Due.step(work, 1, 1, "r");
        work.lemma(21, 1);
        Due.same("13: equal terms need no law", work.lawAt(21, 3), 1);
        Due.assume(work, "r", "q(r)");
        work.lemma(22, 0);
        Due.yes("13: the assumption does not count there", work.rests(22, 8));
        Due.begin(work, 2, "p(r,q(r))");
        Due.step(work, 2, 1, "r");
        work.end(23, 2);
        Due.same("13: an assumption that counts is looked at first", work.lawAt(23, 3), 1);
    }

    private static void promise14Cases() {
        Chainwork work = work();
        Due.law(work, 1, "p(a,b)", Chainwork.EQUAL, "b");
        Due.condition(work, 1, "a", "b");
        Due.law(work, 2, "p(a,b)", Chainwork.LESS, "b");
        Due.condition(work, 2, "b", "a");
        Due.same("14: LESS", work.cases(10, 1, 2), Chainwork.LESS);
        Due.text("14: the law", Due.output(work, work.writeLaw(10)), "p(a,b)<b");
        Due.same("14: it is proved", work.lawAt(10, 1), 1);
        Due.same("14: on both", work.lawAt(10, 3), 2);
        Due.same("14: the other way round", work.cases(99, 2, 1), Chainwork.LESS);
        Due.same("14: the least name", work.cases(0, 2, 1), Chainwork.LESS);
        Due.law(work, 3, "p(a,b)", Chainwork.EQUAL, "b");
        Due.condition(work, 3, "b", "a");
        Due.same("14: EQUAL", work.cases(12, 1, 3), Chainwork.EQUAL);
        Due.law(work, 4, "p(a,b)", Chainwork.LESS, "b");
        Due.condition(work, 4, "q(a)", "q(a)");
        Due.same("14: both laws are one", work.cases(13, 4, 4), Chainwork.LESS);
        Due.same("14: it rests on one", work.lawAt(13, 3), 1);
        Due.assume(work, "a", "b");
        Due.begin(work, 0, "p(b,p(a,b))");
        Due.step(work, 0, 1, "p(b,b)");
        work.end(14, 0);
        Due.assume(work, "b", "a");
        Due.begin(work, 0, "p(b,p(a,b))");
        Due.step(work, 0, 3, "p(b,b)");
        work.end(15, 0);
        Due.same("14: of proved laws", work.cases(16, 14, 15), Chainwork.EQUAL);
        Due.same("14: on these and what they rest on", work.lawAt(16, 3), 4);
    }

    private static void promise14Refused() {
        Chainwork work = work();
        Due.law(work, 1, "p(a,b)", Chainwork.EQUAL, "b");
        Due.law(work, 2, "p(a,b)", Chainwork.EQUAL, "b");
        Due.thrown("14: without conditions", ARGUMENT, () -> work.cases(1, 1, 2));
        Due.condition(work, 1, "a", "b");
        Due.thrown("14: one without", ARGUMENT, () -> work.cases(3, 1, 2));
        Due.condition(work, 2, "a", "b");
        Due.thrown("14: the same case", ARGUMENT, () -> work.cases(3, 1, 2));
        Due.thrown("14: one law for both", ARGUMENT, () -> work.cases(3, 1, 1));
        Due.condition(work, 2, "b", "b");
        Due.thrown("14: the first term differs", ARGUMENT, () -> work.cases(3, 1, 2));
        Due.condition(work, 2, "b", "a");
        Due.law(work, 4, "p(a,b)", Chainwork.EQUAL, "a");
        Due.condition(work, 4, "b", "a");
        Due.thrown("14: another right term", ARGUMENT, () -> work.cases(3, 1, 4));
        Due.law(work, 5, "p(b,a)", Chainwork.EQUAL, "b");
        Due.condition(work, 5, "b", "a");
        Due.thrown("14: another left term", ARGUMENT, () -> work.cases(3, 1, 5));
        Due.thrown("14: name 100", ARGUMENT, () -> work.cases(100, 1, 2));
        Due.thrown("14: name -1", ARGUMENT, () -> work.cases(-1, 70, 71));
        Due.thrown("14: no first law", ELEMENT, () -> work.cases(1, 70, 2));
        Due.thrown("14: no second law", ELEMENT, () -> work.cases(1, 1, 100));
        Due.thrown("14: name of a law", STATE, () -> work.cases(4, 1, 2));
        work.equivalence(6, 0, 0, 0, 0);
        Due.thrown("14: name of an equivalence", STATE, () -> work.cases(6, 1, 2));
        Due.thrown("14: an equivalence is no law", ELEMENT, () -> work.cases(7, 1, 6));
        for (int i = 0; i < 16; i++) {
            work.law(40 + i, 0, 0, 0);
        }
        Due.thrown("14: the 21st law", STATE, () -> work.cases(3, 1, 2));
        Due.thrown("14: no two cases, with 20 laws", ARGUMENT, () -> work.cases(3, 1, 1));
    }

    private static void promise15Across() {
        Chainwork work = work();
        // a < q(b) just if b < q(a)
        Due.read(work, 4, "q(b)");
        Due.read(work, 5, "q(a)");
        work.equivalence(7, 0, 4, 1, 5);
        Due.law(work, 1, "p(c,r)", Chainwork.LESS, "q(q(d))");
        Due.same("15: forward", work.across(20, 1, 7, true), 2);
        Due.text("15: the law", Due.output(work, work.writeLaw(20)), "q(d)<q(p(c,r))");
        Due.same("15: backward", work.across(21, 1, 7, false), 3);
        Due.text("15: from the right line", Due.output(work, work.writeLaw(21)), "q(d)<q(p(c,r))");
        Due.same("15: it is proved", work.lawAt(20, 1), 1);
        Due.same("15: it is a LESS one", work.lawAt(20, 0), Chainwork.LESS);
        Due.same("15: it rests on one", work.lawAt(20, 3), 1);
        Due.yes("15: on the law", work.rests(20, 1));
        Due.law(work, 2, "d", Chainwork.EQUAL, "q(r)");
        Due.same("15: by an EQUAL one", work.across(22, 2, 7, true), 5);
        Due.text("15: it is LESS", Due.output(work, work.writeLaw(22)), "r<q(d)");
        Due.same("15: LESS", work.lawAt(22, 0), Chainwork.LESS);
        Due.same("15: by a proved one", work.across(99, 22, 7, true), 6);
        Due.text("15: back again", Due.output(work, work.writeLaw(99)), "d<q(r)");
        Due.same("15: on that and the first one", work.lawAt(99, 3), 2);
        Due.same("15: the least name", work.across(0, 22, 7, true), 7);
        // the two sides differ: the left line has b twice
        Due.read(work, 4, "p(a,b)");
        Due.read(work, 5, "b");
        Due.read(work, 6, "a");
        work.equivalence(8, 4, 5, 6, 5);
        Due.law(work, 3, "p(r,q(c))", Chainwork.LESS, "q(c)");
        work.across(24, 3, 8, true);
        Due.text("15: the right line of it", Due.output(work, work.writeLaw(24)), "r<q(c)");
        work.across(25, 24, 8, false);
        Due.text("15: the left line of it", Due.output(work, work.writeLaw(25)), "p(r,q(c))<q(c)");
    }

    private static void promise15Refused() {
        Chainwork work = work();
        Due.read(work, 4, "p(a,b)");
        work.equivalence(7, 4, 1, 0, 1);
        work.equivalence(8, 0, 0, 0, 1);
        Due.law(work, 1, "p(c,d)", Chainwork.LESS, "d");
        Due.thrown("15: name 100", ARGUMENT, () -> work.across(100, 1, 7, true));
        Due.thrown("15: name -1", ARGUMENT, () -> work.across(-1, 50, 50, true));
        Due.thrown("15: no such law", ELEMENT, () -> work.across(20, 50, 7, true));
        Due.thrown("15: no such equivalence", ELEMENT, () -> work.across(20, 1, 9, true));
        Due.thrown("15: the law's name is no equivalence", ELEMENT, () -> work.across(20, 1, 1, true));
        Due.law(work, 2, "p(c,d)", Chainwork.LESS, "c");
        Due.thrown("15: no instance", ARGUMENT, () -> work.across(20, 2, 7, true));
        Due.law(work, 3, "d", Chainwork.LESS, "p(c,d)");
        Due.thrown("15: not in this order", ARGUMENT, () -> work.across(20, 3, 7, true));
        Due.thrown("15: of the other line it is one", STATE, () -> work.across(1, 2, 7, false));
        Due.law(work, 4, "c", Chainwork.LESS, "c");
        Due.thrown("15: b stands in the other line alone", ARGUMENT, () -> work.across(20, 4, 8, true));
        Due.same("15: backward it can be", work.across(20, 1, 8, false), 5);
        Due.text("15: the law", Due.output(work, work.writeLaw(20)), "p(c,d)<p(c,d)");
        Due.condition(work, 3, "c", "d");
        Due.thrown("15: a condition", ARGUMENT, () -> work.across(21, 3, 7, false));
        Due.thrown("15: the name of a law", STATE, () -> work.across(2, 1, 7, true));
        Due.thrown("15: the name of an equivalence", STATE, () -> work.across(8, 1, 7, true));
        StringBuilder nest = new StringBuilder("c");
        for (int i = 0; i < 37; i++) {
            nest.insert(0, "q(").append(")");
        }
        Due.law(work, 5, nest.toString(), Chainwork.LESS, "d");
        Due.same("15: 40 letters", work.across(22, 5, 7, false), 7);
        Due.same("15: it has 40", Due.output(work, work.writeLaw(22)).replaceAll("[(),<d]", "").length(), 39);
        Due.law(work, 6, "q(" + nest + ")", Chainwork.LESS, "d");
        Due.thrown("15: 41 letters", STATE, () -> work.across(23, 6, 7, false));
        Due.read(work, 4, "p(a,b)");
        work.equivalence(9, 0, 4, 0, 1);
        Due.law(work, 10, "d", Chainwork.LESS, "q(" + nest + ")");
        Due.thrown("15: 41 letters in the right term", STATE, () -> work.across(23, 10, 9, false));
        for (int i = 0; i < 11; i++) {
            work.law(40 + i, 0, 0, 0);
        }
        Due.same("15: 20 laws", work.laws(), 20);
        Due.thrown("15: the 21st law", STATE, () -> work.across(23, 1, 7, true));
        Due.thrown("15: the argument is listed first", ARGUMENT, () -> work.across(1, 2, 7, true));
    }

    private static void promise31WriteLaw() {
        Chainwork work = work();
        Due.law(work, 1, "p( a , q(b))", Chainwork.EQUAL, "r");
        Due.same("31: its length", work.writeLaw(1), 11);
        Due.text("31: EQUAL", Due.output(work, 11), "p(a,q(b))=r");
        Due.law(work, 2, "a", Chainwork.LESS, "p(a,a)");
        Due.text("31: LESS, in place of what was there", Due.output(work, work.writeLaw(2)), "a<p(a,a)");
        Due.condition(work, 2, "q(a)", "r");
        Due.text("31: with a condition", Due.output(work, work.writeLaw(2)), "a<p(a,a);q(a)<r");
        Due.thrown("31: no such law", ELEMENT, () -> work.writeLaw(3));
        Due.thrown("31: -1", ELEMENT, () -> work.writeLaw(-1));
        Due.thrown("31: 100", ELEMENT, () -> work.writeLaw(100));
        Due.assume(work, "a", "b");
        Due.thrown("31: an assumption is no law", ELEMENT, () -> work.writeLaw(100));
        Due.text("31: the output stays", Due.output(work, 15), "a<p(a,a);q(a)<r");
        String nest = "";
        for (int i = 0; i < 39; i++) {
            nest += "q(";
        }
        nest += "a" + ")".repeat(39);
        Due.law(work, 3, nest, Chainwork.LESS, nest);
        Due.condition(work, 3, nest, nest);
        String due = nest + "<" + nest + ";" + nest + "<" + nest;
        Due.same("31: the greatest one", work.writeLaw(3), due.length());
        Due.text("31: the greatest one", Due.output(work, due.length()), due);
    }

    private static void promise37To39Book() {
        Chainwork work = work();
        Due.same("37: none", work.laws(), 0);
        Due.law(work, 50, "p(a,b)", Chainwork.EQUAL, "p(b,a)");
        Due.law(work, 7, "p(a,a)", Chainwork.LESS, "a");
        Due.same("37: two", work.laws(), 2);
        Due.begin(work, 0, "p(p(a,b),p(b,a))");
        Due.step(work, 0, 50, "p(p(b,a),p(b,a))");
        Due.step(work, 0, 7, "p(b,a)");
        work.lemma(99, 0);
        Due.same("38: relation LESS", work.lawAt(99, 0), Chainwork.LESS);
        Due.same("38: relation EQUAL", work.lawAt(50, 0), Chainwork.EQUAL);
        Due.same("38: proved", work.lawAt(99, 1), 1);
        Due.same("38: told", work.lawAt(50, 1), 0);
        Due.same("38: rests on two", work.lawAt(99, 3), 2);
        Due.same("38: the least one", work.lawAt(99, 4), 7);
        Due.same("38: the least one of none", work.lawAt(7, 4), Chainwork.NONE);
        Due.same("38: next of 7", work.lawAt(7, 5), 50);
        Due.same("38: next of 50", work.lawAt(50, 5), 99);
        Due.same("38: next of 99", work.lawAt(99, 5), Chainwork.NONE);
        Due.law(work, 3, "a", Chainwork.LESS, "b");
        Due.condition(work, 3, "a", "b");
        Due.same("38: a condition", work.lawAt(3, 2), 1);
        Due.same("38: no condition", work.lawAt(50, 2), 0);
        Due.thrown("38: no such law", ELEMENT, () -> work.lawAt(8, 6));
        Due.thrown("38: name -1", ELEMENT, () -> work.lawAt(-1, 0));
        Due.thrown("38: name 100", ELEMENT, () -> work.lawAt(100, 0));
        Due.thrown("38: what 6", ARGUMENT, () -> work.lawAt(7, 6));
        Due.thrown("38: what -1", ARGUMENT, () -> work.lawAt(7, -1));
        Due.yes("39: 99 on 50", work.rests(99, 50));
        Due.yes("39: 99 on 7", work.rests(99, 7));
        Due.no("39: 50 on 99", work.rests(50, 99));
        Due.no("39: 99 on 99", work.rests(99, 99));
        Due.thrown("39: no such law", ELEMENT, () -> work.rests(8, 7));
        Due.thrown("39: no such other law", ELEMENT, () -> work.rests(7, 8));
        Due.thrown("39: 100", ELEMENT, () -> work.rests(100, 7));
        Due.thrown("39: -1", ELEMENT, () -> work.rests(7, -1));
    }
}
