import java.util.NoSuchElementException;

/** Promises 16 to 23 and 41 to 45: chains, steps, the search. */
public final class ChainPromises {
    private static final Class<IndexOutOfBoundsException> INDEX = IndexOutOfBoundsException.class;
    private static final Class<IllegalArgumentException> ARGUMENT = IllegalArgumentException.class;
    private static final Class<IllegalStateException> STATE = IllegalStateException.class;
    private static final Class<NoSuchElementException> ELEMENT = NoSuchElementException.class;

    private ChainPromises() { }

    public static void main(String[] args) {
        promise16Begin();
        promise17Line();
        promise18Step();
        promise18FirstWay();
        promise18Directions();
        promise18Conditions();
        promise18GreatConditions();
        promise18Refused();
        promise19Turn();
        promise20Join();
        promise21Cut();
        promise22Take();
        promise23Find();
        promise23Order();
        promise23Relations();
        promise23Limits();
        promise23Refused();
        promise41To43Checks();
        promise44StepAt();
        promise45Needs();
        Due.end("ChainPromises");
    }

    /** Signs p(rises,rises), q(falls), r, s(mixed); registers 0 a, 1 b. */
    private static Chainwork work() {
        Chainwork work = new Chainwork();
        work.sign(2, 0, 0);
        work.sign(1, 1, 0);
        work.sign(0, 0, 0);
        work.sign(1, 2, 0);
        work.variable(0, 0);
        work.variable(1, 1);
        return work;
    }

    private static void promise16Begin() {
        Chainwork work = work();
        Due.same("16: it had none", work.begin(3, 0), 0);
        Due.same("16: it had one", work.begin(3, 1), 1);
        Due.same("16: it has one", work.lines(3), 1);
        Due.line(work, 3, 7, "q(a)");
        Due.line(work, 3, 7, "q(a)");
        Due.same("16: it had three", work.begin(3, 0), 3);
        Due.text("16: its line", Due.line(work, 3, 0), "a");
        Due.same("16: the others have none", work.lines(2), 0);
        Due.thrown("16: chain 4", INDEX, () -> work.begin(4, 0));
        Due.thrown("16: chain -1", INDEX, () -> work.begin(-1, 8));
        Due.thrown("16: register 10", INDEX, () -> work.begin(0, 10));
        Due.thrown("16: register -1", INDEX, () -> work.begin(0, -1));
        Due.thrown("16: empty", STATE, () -> work.begin(3, 8));
        Due.same("16: it stays", work.lines(3), 1);
    }

    private static void promise17Line() {
        Chainwork work = work();
        Due.thrown("17: no line yet", STATE, () -> work.line(0, 5, 0));
        work.begin(0, 0);
        Due.same("17: not right", work.line(0, 102, 1), 2);
        Due.same("17: its name", work.stepAt(0, 1, 0), 102);
        Due.same("17: a third one", work.line(0, 0, 1), 3);
        Due.thrown("17: chain 4", INDEX, () -> work.line(4, 103, 0));
        Due.thrown("17: chain -1", INDEX, () -> work.line(-1, 0, 0));
        Due.thrown("17: register 10", INDEX, () -> work.line(0, -1, 10));
        Due.thrown("17: register -1", INDEX, () -> work.line(0, 0, -1));
        Due.thrown("17: name 103", ARGUMENT, () -> work.line(0, 103, 9));
        Due.thrown("17: name -1", ARGUMENT, () -> work.line(1, -1, 0));
        Due.thrown("17: an empty register", STATE, () -> work.line(0, 1, 9));
        for (int i = 3; i < 12; i++) {
            Due.same("17: lines", work.line(0, 99, 0), i + 1);
        }
        Due.thrown("17: a 13th line", STATE, () -> work.line(0, 99, 0));
        Due.same("17: twelve", work.lines(0), 12);
        work.undo();
        Due.same("17: undo", work.lines(0), 11);
    }

    private static void promise18Step() {
        Chainwork work = work();
        Due.law(work, 5, "p(a,b)", Chainwork.EQUAL, "p(b,a)");
        Due.law(work, 6, "p(a,b)", Chainwork.LESS, "a");
        Due.begin(work, 0, "p(p(a,q(b)),c)");
        Due.same("18: EQUAL", Due.step(work, 0, 5, "p(p(q(b),a),c)"), Chainwork.EQUAL);
        Due.same("18: LESS", Due.step(work, 0, 6, "p(q(b),c)"), Chainwork.LESS);
        Due.same("18: backward where it falls", Due.step(work, 0, 6, "p(q(p(b,d)),c)"), Chainwork.LESS);
        Due.same("18: backward", work.stepAt(0, 3, 2), 0);
        Due.same("18: four lines", work.lines(0), 4);
        Due.assume(work, "q(b)", "r");
        Due.begin(work, 1, "p(c,q(b))");
        Due.same("18: an assumption", Due.step(work, 1, 100, "p(c,r)"), Chainwork.LESS);
        Due.same("18: back", Due.step(work, 1, 100, "p(c,q(b))"), Chainwork.MORE);
        // the same variable stands for the same term
        Due.law(work, 7, "p(a,a)", Chainwork.EQUAL, "a");
        Due.begin(work, 2, "p(q(a),q(a))");
        Due.same("18: idempotent", Due.step(work, 2, 7, "q(a)"), Chainwork.EQUAL);
        Due.same("18: and back", Due.step(work, 2, 7, "p(q(a),q(a))"), Chainwork.EQUAL);
        Due.begin(work, 3, "p(q(a),q(b))");
        Due.read(work, 8, "q(a)");
        Due.thrown("18: two terms for one variable", ARGUMENT, () -> work.step(3, 7, 8));
        Due.begin(work, 3, "p(a,b)");
        Due.read(work, 8, "p(p(a,a),p(b,b))");
        Due.thrown("18: two places at once", ARGUMENT, () -> work.step(3, 7, 8));
        Due.same("18: nothing came", work.lines(3), 1);
    }

    private static void promise18FirstWay() {
        Chainwork work = work();
        Due.law(work, 1, "p(a,b)", Chainwork.LESS, "p(b,a)");
        Due.begin(work, 0, "p(a,b)");
        Due.same("18: forward comes ahead of backward", Due.step(work, 0, 1, "p(b,a)"), Chainwork.LESS);
        Due.same("18: forward", work.stepAt(0, 1, 2), 1);
        // p(p(x,x),p(x,x)) to itself: by the first place
        Due.begin(work, 1, "p(p(a,a),p(a,a))");
        Due.same("18: to itself", Due.step(work, 1, 1, "p(p(a,a),p(a,a))"), Chainwork.LESS);
        Due.same("18: the first place", work.stepAt(1, 1, 3), 0);
        // forward in a later place comes ahead of backward in an earlier one
        Due.law(work, 2, "q(q(a))", Chainwork.LESS, "q(q(q(q(a))))");
        Due.begin(work, 2, "q(q(a))");
        Due.same("18: longer", Due.step(work, 2, 2, "q(q(q(q(a))))"), Chainwork.LESS);
        Due.law(work, 3, "q(q(a))", Chainwork.LESS, "a");
        Due.begin(work, 3, "q(q(q(a)))");
        Due.same("18: the outer place", Due.step(work, 3, 3, "q(a)"), Chainwork.LESS);
        Due.same("18: place 0, though place 1 would do", work.stepAt(3, 1, 3), 0);
    }

    private static void promise18Directions() {
        Chainwork work = work();
        Due.law(work, 1, "a", Chainwork.LESS, "p(a,b)");
        Due.law(work, 2, "p(a,a)", Chainwork.EQUAL, "a");
        Due.begin(work, 0, "q(a)");
        Due.same("18: forward where it falls is MORE", Due.step(work, 0, 1, "q(p(a,c))"), Chainwork.MORE);
        Due.same("18: backward where it falls is LESS", Due.step(work, 0, 1, "q(a)"), Chainwork.LESS);
        Due.begin(work, 1, "q(q(a))");
        Due.same("18: falls within falls", Due.step(work, 1, 1, "q(q(p(a,c)))"), Chainwork.LESS);
        Due.same("18: backward where it rises is MORE", Due.step(work, 1, 1, "q(q(a))"), Chainwork.MORE);
        Due.begin(work, 2, "s(a)");
        Due.read(work, 8, "s(p(a,b))");
        Due.thrown("18: LESS where it is MIXED", ARGUMENT, () -> work.step(2, 1, 8));
        Due.read(work, 8, "s(p(a,a))");
        Due.same("18: EQUAL where it is MIXED", work.step(2, 2, 8), Chainwork.EQUAL);
        Due.begin(work, 3, "q(s(q(a)))");
        Due.read(work, 8, "q(s(q(p(a,b))))");
        Due.thrown("18: within what is MIXED", ARGUMENT, () -> work.step(3, 1, 8));
        Due.assume(work, "a", "b");
        Due.read(work, 8, "q(s(q(b)))");
        Due.thrown("18: an assumption where it is MIXED", ARGUMENT, () -> work.step(3, 100, 8));
    }

    private static void promise18Conditions() {
        Chainwork work = work();
        Due.law(work, 1, "p(a,b)", Chainwork.EQUAL, "b");
        Due.condition(work, 1, "a", "q(b)");
        Due.begin(work, 0, "p(a,b)");
        Due.read(work, 8, "b");
        Due.thrown("18: not granted", ARGUMENT, () -> work.step(0, 1, 8));
        Due.begin(work, 1, "p(q(r),r)");
        Due.same("18: equal terms grant it", Due.step(work, 1, 1, "r"), Chainwork.EQUAL);
        Due.assume(work, "a", "q(c)");
        Due.thrown("18: another assumption", ARGUMENT, () -> work.step(0, 1, 8));
        Due.assume(work, "a", "q(b)");
        Due.same("18: an assumption grants it", Due.step(work, 0, 1, "b"), Chainwork.EQUAL);
        work.giveUp();
        Due.same("18: given up", work.wrong(0), 1);
        Due.law(work, 2, "q(d)", Chainwork.LESS, "d");
        Due.same("18: the wrong way round", work.wrong(0), 1);
        Due.law(work, 3, "d", Chainwork.LESS, "q(c)");
        Due.same("18: a LESS law forward", work.wrong(0), Chainwork.NONE);
        work.undo();
        Due.law(work, 4, "q(d)", Chainwork.EQUAL, "c");
        Due.same("18: an EQUAL law backward", work.wrong(0), Chainwork.NONE);
        work.undo();
        Due.law(work, 4, "a", Chainwork.LESS, "q(c)");
        Due.condition(work, 4, "a", "a");
        Due.same("18: a law with a condition grants none", work.wrong(0), 1);
        // a condition about b, which stands in the right term alone
        Due.law(work, 6, "r", Chainwork.EQUAL, "p(b,r)");
        Due.condition(work, 6, "b", "r");
        Due.begin(work, 2, "q(r)");
        Due.same("18: bound by the next line", Due.step(work, 2, 6, "q(p(r,r))"), Chainwork.EQUAL);
        Due.read(work, 8, "q(p(p(b,r),r))");
        Due.thrown("18: not with another term", ARGUMENT, () -> work.step(2, 6, 8));
    }

    /** A condition may be far greater than any term that is kept: here of 20 times 37 letters and 19 more. */
    private static void promise18GreatConditions() {
        Chainwork work = work();
        String leaves = "a";
        for (int i = 0; i < 19; i++) {
            leaves = "p(a," + leaves + ")";
        }
        String great = "q(".repeat(36) + "r" + ")".repeat(36);
        Due.law(work, 1, "p(a,b)", Chainwork.EQUAL, "b");
        Due.condition(work, 1, leaves, "b");
        Due.begin(work, 0, "p(" + great + ",c)");
        Due.read(work, 8, "c");
        Due.thrown("18: not granted", ARGUMENT, () -> work.step(0, 1, 8));
        Due.law(work, 5, "p(" + great + ",a)", Chainwork.LESS, "b");
        Due.law(work, 4, "p(b,p(b,p(c,d)))", Chainwork.EQUAL, "a");
        Due.same("18: granted", Due.step(work, 0, 1, "c"), Chainwork.EQUAL);
        work.lemma(9, 0);
        Due.yes("18: by law 4", work.rests(9, 4));
        Due.no("18: not by law 5", work.rests(9, 5));
        Due.condition(work, 5, "a", "a");
        Due.same("18: still right", work.wrong(0), Chainwork.NONE);
        Due.law(work, 2, "p(a,b)", Chainwork.EQUAL, "b");
        Due.condition(work, 2, leaves, leaves);
        Due.begin(work, 1, "p(" + great + ",c)");
        Due.same("18: equal terms of that size", Due.step(work, 1, 2, "c"), Chainwork.EQUAL);
        work.lemma(10, 1);
        Due.same("18: need no law", work.lawAt(10, 3), 1);
    }

    private static void promise18Refused() {
        Chainwork work = work();
        Due.law(work, 1, "a", Chainwork.EQUAL, "p(a,a)");
        Due.thrown("18: chain 4", INDEX, () -> work.step(4, 77, 0));
        Due.thrown("18: chain -1", INDEX, () -> work.step(-1, 1, 0));
        Due.thrown("18: register 10", INDEX, () -> work.step(0, 77, 10));
        Due.thrown("18: register -1", INDEX, () -> work.step(0, 1, -1));
        Due.thrown("18: no such law", ELEMENT, () -> work.step(0, 77, 5));
        Due.thrown("18: no such assumption", ELEMENT, () -> work.step(0, 100, 0));
        Due.thrown("18: name -1", ELEMENT, () -> work.step(0, -1, 0));
        Due.thrown("18: name 103", ELEMENT, () -> work.step(0, 103, 0));
        Due.thrown("18: no line", STATE, () -> work.step(0, 1, 0));
        work.begin(0, 0);
        Due.thrown("18: empty", STATE, () -> work.step(0, 1, 5));
        Due.thrown("18: not right", ARGUMENT, () -> work.step(0, 1, 1));
        work.equivalence(2, 0, 0, 0, 0);
        Due.thrown("18: an equivalence is no law", ELEMENT, () -> work.step(0, 2, 0));
        for (int i = 1; i < 12; i++) {
            work.line(0, 1, 0);
        }
        Due.thrown("18: a 13th line", STATE, () -> work.step(0, 1, 1));
        work.assume(0, 1);
        Due.thrown("18: assumption 101", ELEMENT, () -> work.step(1, 101, 0));
        Due.thrown("18: assumption 100 is there", STATE, () -> work.step(1, 100, 0));
    }

    private static void promise19Turn() {
        Chainwork work = work();
        Due.same("19: no line", work.turn(0), 0);
        Due.same("19: it is a change", work.undo(), 6);
        Due.law(work, 4, "a", Chainwork.LESS, "p(a,b)");
        Due.law(work, 5, "p(a,b)", Chainwork.EQUAL, "p(b,a)");
        Due.begin(work, 0, "r");
        Due.step(work, 0, 4, "p(r,a)");
        Due.step(work, 0, 5, "p(a,r)");
        Due.same("19: three lines", work.turn(0), 3);
        Due.text("19: the last one comes first", Due.line(work, 0, 0), "p(a,r)");
        Due.text("19: the middle one", Due.line(work, 0, 1), "p(r,a)");
        Due.text("19: the first one comes last", Due.line(work, 0, 2), "r");
        Due.same("19: the last name comes first", work.stepAt(0, 1, 0), 5);
        Due.same("19: the first name comes last", work.stepAt(0, 2, 0), 4);
        Due.same("19: LESS is MORE", work.relation(0), Chainwork.MORE);
        Due.same("19: one line", work.begin(1, 0) + work.turn(1), 1);
        Due.thrown("19: chain 4", INDEX, () -> work.turn(4));
        Due.thrown("19: chain -1", INDEX, () -> work.turn(-1));
    }

    private static void promise20Join() {
        Chainwork work = work();
        Due.law(work, 4, "a", Chainwork.EQUAL, "p(a,a)");
        Due.begin(work, 0, "r");
        Due.line(work, 0, 4, "p(r,r)");
        Due.begin(work, 1, "p(r,r)");
        Due.line(work, 1, 7, "q(r)");
        Due.line(work, 1, 8, "a");
        Due.same("20: four lines", work.join(0, 1, 2), 4);
        String[] lines = {"r", "p(r,r)", "q(r)", "a"};
        int[] names = {0, 4, 7, 8};
        for (int i = 0; i < 4; i++) {
            Due.text("20: line " + i, Due.line(work, 2, i), lines[i]);
            if (i > 0) {
                Due.same("20: name " + i, work.stepAt(2, i, 0), names[i]);
            }
        }
        Due.same("20: the first one stays", work.lines(0), 2);
        Due.same("20: the second one stays", work.lines(1), 3);
        Due.same("20: into the second one", work.join(0, 1, 1), 4);
        Due.same("20: the name stays", work.stepAt(1, 1, 0), 4);
        Due.thrown("20: not the same line", ARGUMENT, () -> work.join(0, 1, 2));
        Due.thrown("20: no line", STATE, () -> work.join(0, 3, 2));
        Due.thrown("20: no line in the first one", STATE, () -> work.join(3, 0, 2));
        Due.thrown("20: first 4", INDEX, () -> work.join(4, 3, 0));
        Due.thrown("20: second -1", INDEX, () -> work.join(3, -1, 0));
        Due.thrown("20: into 4", INDEX, () -> work.join(3, 3, 4));
        Due.begin(work, 3, "a");
        Due.same("20: a chain of one line and itself", work.join(3, 3, 3), 1);
        Due.begin(work, 0, "a");
        for (int i = 0; i < 6; i++) {
            work.line(0, 9, 0);
        }
        Due.same("20: 13 lines are too many", work.lines(0) + 6, 13);
        work.cut(0, 0, 5, 1);
        Due.same("20: 12 lines", work.join(0, 1, 2), 12);
        Due.thrown("20: 13 lines", STATE, () -> work.join(0, 0, 3));
        Due.begin(work, 1, "b");
        Due.thrown("20: the state is listed first", STATE, () -> {
            for (int i = 0; i < 6; i++) {
                work.line(1, 9, 0);
            }
            work.join(0, 1, 3);
        });
    }

    private static void promise21Cut() {
        Chainwork work = work();
        Due.begin(work, 0, "a");
        Due.line(work, 0, 10, "b");
        Due.line(work, 0, 11, "c");
        Due.line(work, 0, 12, "d");
        Due.same("21: two lines", work.cut(0, 1, 2, 3), 2);
        Due.text("21: its first line", Due.line(work, 3, 0), "b");
        Due.text("21: its last line", Due.line(work, 3, 1), "c");
        Due.same("21: its name", work.stepAt(3, 1, 0), 11);
        Due.same("21: the chain stays", work.lines(0), 4);
        Due.same("21: all lines", work.cut(0, 0, 3, 1), 4);
        Due.same("21: one line", work.cut(0, 3, 3, 0), 1);
        Due.text("21: into itself", Due.line(work, 0, 0), "d");
        Due.thrown("21: chain 4", INDEX, () -> work.cut(4, 0, 0, 0));
        Due.thrown("21: chain -1", INDEX, () -> work.cut(-1, 0, 0, 0));
        Due.thrown("21: from 4", INDEX, () -> work.cut(1, 4, 0, 0));
        Due.thrown("21: from -1", INDEX, () -> work.cut(1, -1, 0, 0));
        Due.thrown("21: to 4", INDEX, () -> work.cut(1, 0, 4, 0));
        Due.thrown("21: to -1", INDEX, () -> work.cut(1, 0, -1, 0));
        Due.thrown("21: into 4", INDEX, () -> work.cut(1, 3, 2, 4));
        Due.thrown("21: to less than from", ARGUMENT, () -> work.cut(1, 3, 2, 0));
        Due.thrown("21: no lines", INDEX, () -> work.cut(2, 0, 0, 0));
    }

    private static void promise22Take() {
        Chainwork work = work();
        Due.begin(work, 1, "p(a,q(b))");
        Due.line(work, 1, 0, "q(r)");
        Due.same("22: the first line", work.take(1, 0, 5), 4);
        Due.text("22: its term", Due.written(work, 5), "p(a,q(b))");
        Due.same("22: the second line", work.take(1, 1, 5), 2);
        Due.text("22: its term", Due.written(work, 5), "q(r)");
        Due.thrown("22: chain 4", INDEX, () -> work.take(4, 0, 0));
        Due.thrown("22: chain -1", INDEX, () -> work.take(-1, 0, 0));
        Due.thrown("22: line 2", INDEX, () -> work.take(1, 2, 0));
        Due.thrown("22: line -1", INDEX, () -> work.take(1, -1, 0));
        Due.thrown("22: register 10", INDEX, () -> work.take(1, 0, 10));
        Due.thrown("22: register -1", INDEX, () -> work.take(1, 0, -1));
        Due.thrown("22: no lines", INDEX, () -> work.take(0, 0, 0));
        work.undo();
        Due.text("22: undo", Due.written(work, 5), "p(a,q(b))");
    }

    private static int find(Chainwork work, String from, String to, int relation, int most) {
        Due.read(work, 5, from);
        Due.read(work, 6, to);
        return work.find(3, 5, 6, relation, most);
    }

    private static void promise23Find() {
        Chainwork work = work();
        Due.law(work, 5, "p(a,b)", Chainwork.EQUAL, "p(b,a)");
        Due.law(work, 6, "p(p(a,b),c)", Chainwork.EQUAL, "p(a,p(b,c))");
        Due.same("23: no step", find(work, "p(a,b)", "p(a,b)", 0, 0), 0);
        Due.same("23: one line", work.lines(3), 1);
        Due.same("23: one step", find(work, "p(a,b)", "p(b,a)", 0, 1), 1);
        Due.same("23: its name", work.stepAt(3, 1, 0), 5);
        Due.same("23: three steps", find(work, "p(a,p(b,c))", "p(b,p(a,c))", 0, 4), 3);
        Due.same("23: four lines", work.lines(3), 4);
        Due.same("23: it is right", work.relation(3), Chainwork.EQUAL);
        Due.text("23: the first line", Due.line(work, 3, 0), "p(a,p(b,c))");
        Due.text("23: the second line", Due.line(work, 3, 1), "p(p(b,c),a)");
        Due.text("23: the third line", Due.line(work, 3, 2), "p(b,p(c,a))");
        Due.text("23: the last line", Due.line(work, 3, 3), "p(b,p(a,c))");
        Due.same("23: by 5", work.stepAt(3, 1, 0), 5);
        Due.same("23: then by 6", work.stepAt(3, 2, 0), 6);
        Due.same("23: then by 5", work.stepAt(3, 3, 0), 5);
        Due.thrown("23: not with two steps", ELEMENT, () -> find(work, "p(a,p(b,c))", "p(b,p(a,c))", 0, 2));
        Due.same("23: the chain stays", work.lines(3), 4);
        Due.thrown("23: no chain at all", ELEMENT, () -> find(work, "p(a,b)", "p(a,a)", 0, 4));
        Due.same("23: an EQUAL law with LESS", find(work, "p(a,b)", "p(b,a)", 1, 1), 1);
        Due.same("23: an EQUAL law with MORE", find(work, "p(a,b)", "p(b,a)", 2, 1), 1);
    }

    private static void promise23Order() {
        Chainwork work = work();
        Due.law(work, 9, "q(a)", Chainwork.EQUAL, "s(a)");
        Due.law(work, 4, "s(a)", Chainwork.EQUAL, "q(a)");
        Due.same("23: by the least name, though backward", find(work, "q(r)", "s(r)", 0, 3), 1);
        Due.same("23: 4", work.stepAt(3, 1, 0), 4);
        Due.same("23: backward", work.stepAt(3, 1, 2), 0);
        Due.same("23: two places", find(work, "p(q(a),q(b))", "p(s(a),s(b))", 0, 2), 2);
        Due.text("23: the first place first", Due.line(work, 3, 1), "p(s(a),q(b))");
        // forward comes ahead of backward: r goes to a by 1 forward, to b by 1 backward
        Chainwork other = work();
        Due.law(other, 1, "q(a)", Chainwork.EQUAL, "q(q(a))");
        Due.law(other, 2, "q(q(q(a)))", Chainwork.EQUAL, "p(a,a)");
        Due.law(other, 3, "q(a)", Chainwork.EQUAL, "p(a,a)");
        Due.same("23: two steps", find(other, "q(q(r))", "p(r,r)", 0, 4), 2);
        Due.text("23: forward", Due.line(other, 3, 1), "q(q(q(r)))");
        Due.same("23: by 2", other.stepAt(3, 2, 0), 2);
    }

    private static void promise23Relations() {
        Chainwork work = work();
        Due.law(work, 1, "p(a,b)", Chainwork.LESS, "a");
        Due.same("23: LESS", find(work, "p(a,b)", "a", 1, 1), 1);
        Due.thrown("23: not EQUAL", ELEMENT, () -> find(work, "p(a,b)", "a", 0, 4));
        Due.thrown("23: not MORE", ELEMENT, () -> find(work, "p(a,b)", "a", 2, 4));
        Due.same("23: MORE where it falls", find(work, "q(p(a,b))", "q(a)", 2, 1), 1);
        Due.thrown("23: not LESS where it falls", ELEMENT, () -> find(work, "q(p(a,b))", "q(a)", 1, 4));
        Due.thrown("23: not where it is MIXED", ELEMENT, () -> find(work, "s(p(a,b))", "s(a)", 1, 4));
        Due.thrown("23: backward b would be new", ELEMENT, () -> find(work, "a", "p(a,b)", 2, 4));
        Due.law(work, 2, "q(a)", Chainwork.EQUAL, "s(a)");
        Due.condition(work, 2, "a", "a");
        Due.thrown("23: laws with a condition are not used", ELEMENT, () -> find(work, "q(r)", "s(r)", 0, 4));
        Due.assume(work, "r", "a");
        Due.thrown("23: assumptions are not used", ELEMENT, () -> find(work, "r", "a", 1, 4));
        // a step of the chain is done in its first way: here that is another one than was found
        Chainwork other = work();
        Due.law(other, 1, "q(q(a))", Chainwork.LESS, "q(q(a))");
        Due.law(other, 2, "p(a,b)", Chainwork.LESS, "p(b,a)");
        Due.same("23: by a way backward", find(other, "p(a,b)", "p(b,a)", 2, 1), 1);
        Due.same("23: its first way is forward", other.relation(3), Chainwork.LESS);
    }

    private static void promise23Limits() {
        Chainwork work = work();
        Due.law(work, 1, "q(a)", Chainwork.EQUAL, "q(q(q(a)))");
        String of24 = "q(".repeat(23) + "a" + ")".repeat(23);
        String of26 = "q(".repeat(25) + "a" + ")".repeat(25);
        String of23 = "q(".repeat(22) + "a" + ")".repeat(22);
        String of25 = "q(".repeat(24) + "a" + ")".repeat(24);
        Due.same("23: 25 letters are made", find(work, of23, of25, 0, 1), 1);
        Due.thrown("23: 26 letters are not", ELEMENT, () -> find(work, of24, of26, 0, 4));
        Due.same("23: from 26 letters", find(work, of26, of24, 0, 1), 1);
        Due.same("23: from 26 to 26", find(work, of26, of26, 0, 0), 0);
        // p with commuting and associating parts: more than 1000 terms within 4 steps
        Chainwork wide = work();
        Due.law(wide, 1, "p(a,b)", Chainwork.EQUAL, "p(b,a)");
        Due.law(wide, 2, "p(p(a,b),c)", Chainwork.EQUAL, "p(a,p(b,c))");
        String many = "p(p(p(a,b),p(c,d)),p(p(r,a),p(b,p(c,d))))";
        Due.thrown("23: the 1001st term", STATE, () -> find(wide, many, "a", 0, 4));
        Due.thrown("23: few steps find few terms", ELEMENT, () -> find(wide, many, "a", 0, 2));
        Due.same("23: nothing came", wide.lines(3), 0);
        promise23ThousandTerms();
    }

    /** One law at 12 or 13 places: how many terms are found can be told by counting. */
    private static void promise23ThousandTerms() {
        Chainwork work = new Chainwork();
        work.sign(2, 0, 0);
        work.sign(0, 0, 0);
        work.sign(0, 0, 0);
        Due.law(work, 1, "q", Chainwork.LESS, "r");
        // 12 letters q, at most 4 of them changed: 1 + 12 + 66 + 220 + 495 = 794 terms
        String twelve = "p(q,p(q,p(q,p(q,p(q,p(q,p(q,p(q,p(q,p(q,p(q,q)))))))))))";
        Due.read(work, 5, twelve);
        Due.read(work, 6, twelve.replace('q', 'r'));
        Due.thrown("23: 794 terms", ELEMENT, () -> work.find(0, 5, 6, 1, 4));
        // 13 letters: 1 + 13 + 78 + 286 = 378, and then 715 more
        String thirteen = "p(q," + twelve + ")";
        Due.read(work, 5, thirteen);
        Due.thrown("23: more than 1000", STATE, () -> work.find(0, 5, 6, 1, 4));
        Due.thrown("23: 378 within 3 steps", ELEMENT, () -> work.find(0, 5, 6, 1, 3));
        // those with 4 changed letters come by their places; the 622nd of them is the 1000th term
        String[] changed = new String[715];
        int count = 0;
        for (int i = 0; i < 13; i++) {
            for (int k = i + 1; k < 13; k++) {
                for (int m = k + 1; m < 13; m++) {
                    for (int n = m + 1; n < 13; n++) {
                        char[] made = thirteen.toCharArray();
                        int letter = 0;
                        for (int at = 0; at < made.length; at++) {
                            if (made[at] == 'q') {
                                made[at] = letter == i || letter == k || letter == m || letter == n ? 'r' : 'q';
                                letter++;
                            }
                        }
                        changed[count++] = new String(made);
                    }
                }
            }
        }
        Due.same("23: 715", count, 715);
        Due.same("23: the 1000th term", find(work, thirteen, changed[621], 1, 4), 4);
        Due.same("23: the other term as the 1001st one", find(work, thirteen, changed[622], 1, 4), 4);
        Due.thrown("23: ahead of it a 1001st one", STATE, () -> find(work, thirteen, changed[623], 1, 4));
    }

    private static void promise23Refused() {
        Chainwork work = work();
        Due.thrown("23: chain 4", INDEX, () -> work.find(4, 0, 1, 3, 5));
        Due.thrown("23: chain -1", INDEX, () -> work.find(-1, 0, 1, 0, 0));
        Due.thrown("23: from 10", INDEX, () -> work.find(0, 10, 9, 3, 0));
        Due.thrown("23: to -1", INDEX, () -> work.find(0, 9, -1, 0, 0));
        Due.thrown("23: relation 3", ARGUMENT, () -> work.find(0, 9, 0, 3, 0));
        Due.thrown("23: relation -1", ARGUMENT, () -> work.find(0, 0, 0, -1, 0));
        Due.thrown("23: most 5", ARGUMENT, () -> work.find(0, 0, 0, 0, 5));
        Due.thrown("23: most -1", ARGUMENT, () -> work.find(0, 0, 0, 0, -1));
        Due.thrown("23: from empty", STATE, () -> work.find(0, 9, 0, 0, 0));
        Due.thrown("23: to empty", STATE, () -> work.find(0, 0, 9, 0, 0));
        Due.thrown("23: no steps", ELEMENT, () -> work.find(0, 0, 1, 0, 0));
    }

    private static void promise41To43Checks() {
        Chainwork work = work();
        for (int i = 0; i < 4; i++) {
            Due.same("41: no lines", work.lines(i), 0);
            Due.same("42: none is wrong", work.wrong(i), Chainwork.NONE);
            Due.same("43: no relation", work.relation(i), Chainwork.NONE);
        }
        work.begin(2, 0);
        Due.same("41: one", work.lines(2), 1);
        Due.same("42: one line is right", work.wrong(2), Chainwork.NONE);
        Due.same("43: and EQUAL", work.relation(2), Chainwork.EQUAL);
        Due.law(work, 1, "a", Chainwork.LESS, "p(a,b)");
        Due.law(work, 2, "p(a,b)", Chainwork.EQUAL, "p(b,a)");
        Due.begin(work, 0, "a");
        Due.line(work, 0, 1, "p(a,c)");
        Due.line(work, 0, 2, "p(c,a)");
        Due.same("41: three", work.lines(0), 3);
        Due.same("43: LESS and EQUAL", work.relation(0), Chainwork.LESS);
        Due.line(work, 0, 1, "c");
        Due.same("43: LESS and MORE", work.relation(0), Chainwork.NONE);
        Due.same("42: it is right, though", work.wrong(0), Chainwork.NONE);
        work.cut(0, 2, 3, 1);
        Due.same("43: MORE", work.relation(1), Chainwork.MORE);
        Due.line(work, 1, 2, "p(c,d)");
        Due.line(work, 1, 1, "d");
        Due.same("42: the first wrong line", work.wrong(1), 2);
        Due.same("43: not right", work.relation(1), Chainwork.NONE);
        Due.begin(work, 3, "q(a)");
        Due.line(work, 3, 2, "q(a)");
        Due.same("42: line 1", work.wrong(3), 1);
        Due.thrown("41: chain 4", INDEX, () -> work.lines(4));
        Due.thrown("41: chain -1", INDEX, () -> work.lines(-1));
        Due.thrown("42: chain 4", INDEX, () -> work.wrong(4));
        Due.thrown("42: chain -1", INDEX, () -> work.wrong(-1));
        Due.thrown("43: chain 4", INDEX, () -> work.relation(4));
        Due.thrown("43: chain -1", INDEX, () -> work.relation(-1));
    }

    private static void promise44StepAt() {
        Chainwork work = work();
        Due.law(work, 7, "a", Chainwork.LESS, "p(a,b)");
        Due.begin(work, 0, "p(r,q(c))");
        Due.line(work, 0, 7, "p(r,q(p(c,d)))");
        int[] due = {7, Chainwork.MORE, 1, 3, 7};
        for (int what = 0; what < 5; what++) {
            Due.same("44: what " + what, work.stepAt(0, 1, what), due[what]);
        }
        Due.line(work, 0, 7, "p(r,q(c))");
        int[] backward = {7, Chainwork.LESS, 0, 3, 7};
        for (int what = 0; what < 5; what++) {
            Due.same("44: backward, what " + what, work.stepAt(0, 2, what), backward[what]);
        }
        Due.line(work, 0, 3, "b");
        int[] wrong = {3, Chainwork.NONE, Chainwork.NONE, Chainwork.NONE, Chainwork.NONE};
        for (int what = 0; what < 5; what++) {
            Due.same("44: wrong, what " + what, work.stepAt(0, 3, what), wrong[what]);
        }
        Due.law(work, 5, "c", Chainwork.LESS, "p(c,d)");
        Due.same("44: the least name", work.stepAt(0, 1, 4), 5);
        Due.same("44: its own name", work.stepAt(0, 1, 0), 7);
        Due.begin(work, 1, "p(b,b)");
        Due.line(work, 1, 101, "p(b,c)");
        Due.assume(work, "a", "c");
        Due.same("44: not yet", work.stepAt(1, 1, 4), Chainwork.NONE);
        Due.assume(work, "b", "c");
        int[] assumed = {101, Chainwork.LESS, 1, 2, 101};
        for (int what = 0; what < 5; what++) {
            Due.same("44: assumed, what " + what, work.stepAt(1, 1, what), assumed[what]);
        }
        Due.thrown("44: line 0", INDEX, () -> work.stepAt(0, 0, 5));
        Due.thrown("44: line -1", INDEX, () -> work.stepAt(0, -1, 0));
        Due.thrown("44: line 4", INDEX, () -> work.stepAt(0, 4, 0));
        Due.thrown("44: the least line", INDEX, () -> work.stepAt(0, Integer.MIN_VALUE, 0));
        Due.thrown("44: no lines", INDEX, () -> work.stepAt(3, 1, 0));
        Due.thrown("44: chain 4", INDEX, () -> work.stepAt(4, 1, 0));
        Due.thrown("44: chain -1", INDEX, () -> work.stepAt(-1, 1, 0));
        Due.thrown("44: what 5", ARGUMENT, () -> work.stepAt(0, 1, 5));
        Due.thrown("44: what -1", ARGUMENT, () -> work.stepAt(0, 1, -1));
    }

    private static void promise45Needs() {
        Chainwork work = work();
        Due.same("45: no lines", work.needs(0), 0);
        work.begin(0, 0);
        Due.same("45: one line", work.needs(0), 0);
        int[] names = {5, 7, 5, 102, 7, 0};
        int[] due = {1, 2, 2, 3, 3, 4};
        for (int i = 0; i < names.length; i++) {
            work.line(0, names[i], 1);
            Due.same("45: names", work.needs(0), due[i]);
        }
        Due.thrown("45: chain 4", INDEX, () -> work.needs(4));
        Due.thrown("45: chain -1", INDEX, () -> work.needs(-1));
    }
}
