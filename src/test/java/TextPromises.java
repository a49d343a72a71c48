import java.util.NoSuchElementException;

/** Promises 24 to 30 and 32: images, undo, texts. */
public final class TextPromises {
    private static final Class<IndexOutOfBoundsException> INDEX = IndexOutOfBoundsException.class;
    private static final Class<IllegalArgumentException> ARGUMENT = IllegalArgumentException.class;
    private static final Class<IllegalStateException> STATE = IllegalStateException.class;
    private static final Class<NoSuchElementException> ELEMENT = NoSuchElementException.class;

    private TextPromises() { }

    public static void main(String[] args) {
        promise24Restore();
        promise25Undo();
        promise25EveryChange();
        promise25WhatIsNoChange();
        promise26Image();
        promise27Type();
        promise28ClearText();
        promise29ErrorPlace();
        promise29Letters();
        promise30Write();
        promise32OutputAt();
        Due.end("TextPromises");
    }

    private static Chainwork work() {
        Chainwork work = new Chainwork();
        work.sign(2, 0, 1);
        work.sign(1, 1, 0);
        work.sign(0, 0, 0);
        return work;
    }

    /** A work with something of each kind that an image keeps. */
    private static Chainwork full() {
        Chainwork work = work();
        Due.read(work, 0, "p(a,b)");
        Due.law(work, 1, "p(a,b)", Chainwork.EQUAL, "p(b,a)");
        Due.law(work, 2, "p(a,b)", Chainwork.LESS, "a");
        Due.condition(work, 2, "a", "b");
        work.equivalence(3, 0, 0, 0, 0);
        Due.assume(work, "a", "b");
        Due.law(work, 4, "p(a,b)", Chainwork.EQUAL, "p(b,a)");
        Due.begin(work, 1, "p(b,a)");
        Due.line(work, 1, 1, "p(a,b)");
        Due.line(work, 1, 4, "p(b,a)");
        return work;
    }

    private static String told(Chainwork work) {
        StringBuilder told = new StringBuilder().append(work.signs()).append(' ').append(work.laws()).append(' ');
        told.append(work.open()).append(' ').append(work.orders()).append(' ').append(work.checksum());
        for (int i = 0; i < 4; i++) {
            told.append(' ').append(work.lines(i)).append('/').append(work.relation(i)).append('/').append(work.needs(i));
            for (int line = 1; line < work.lines(i); line++) {
                told.append('/').append(work.stepAt(i, line, 0));
            }
        }
        for (int i = 0; i < 10; i++) {
            told.append(' ').append(work.termAt(i, 0) == Chainwork.NONE ? "-" : Due.written(work, i));
        }
        for (int name = 0; name < 100; name++) {
            try {
                told.append(' ').append(Due.output(work, work.writeLaw(name))).append(work.lawAt(name, 3));
            } catch (NoSuchElementException e) {
                told.append('.');
            }
        }
        return told.toString();
    }

    private static void promise24Restore() {
        Chainwork work = full();
        Due.thrown("24: image 2", INDEX, () -> work.restore(2));
        Due.thrown("24: image -1", INDEX, () -> work.restore(-1));
        Due.thrown("24: none was kept", STATE, () -> work.restore(0));
        String before = told(work);
        work.image(1);
        Due.thrown("24: none was kept in the other one", STATE, () -> work.restore(0));
        work.sign(0, 0, 0);
        Due.read(work, 0, "q(a)");
        work.variable(6, 3);
        Due.law(work, 6, "a", Chainwork.EQUAL, "q(q(a))");
        Due.condition(work, 2, "b", "b");
        work.equivalence(5, 0, 0, 0, 0);
        Due.assume(work, "b", "a");
        work.turn(1);
        work.begin(3, 0);
        String after = told(work);
        Due.same("24: three laws", work.restore(1), 3);
        Due.text("24: all is as it was", told(work), before);
        Due.thrown("24: the image's law has its condition", ARGUMENT, () -> work.cases(9, 2, 2));
        Due.same("24: it is a change", work.undo(), 7);
        Due.text("24: undone", told(work), after);
        Due.same("24: again", work.restore(1), 3);
        Due.text("24: the image stays", told(work), before);
        Due.read(work, 0, "r");
        Due.law(work, 9, "a", Chainwork.LESS, "b");
        work.restore(1);
        Due.text("24: changes do not reach the image", told(work), before);
        promise24OtherSigns();
        Due.type(work, "abc");
        work.write(0);
        work.restore(1);
        Due.same("24: the text is no part of it", work.clearText(), 3);
        Due.same("24: nor is the output", work.outputAt(0), 'p');
    }

    /** The image has other signs and equivalences in the same places than the work has. */
    private static void promise24OtherSigns() {
        Chainwork work = new Chainwork();
        work.variable(0, 0);
        work.variable(1, 1);
        work.sign(1, 1, 0);
        work.equivalence(5, 0, 1, 0, 1);
        work.image(0);
        work.undo();
        work.undo();
        work.sign(2, 0, 2);
        work.equivalence(6, 0, 0, 1, 1);
        work.image(1);
        work.restore(0);
        Due.same("24: the image's sign", work.term(2, 0, 0, 99), 2);
        Due.same("24: its direction", work.direction(2, 1), Chainwork.FALLS);
        Due.thrown("24: the image's equivalence", STATE, () -> work.law(5, 0, 0, 0));
        Due.same("24: not the other one", work.law(6, 0, 0, 0), 1);
        work.restore(1);
        Due.same("24: the other sign", work.term(2, 0, 0, 1), 3);
        Due.same("24: its second direction", work.direction(2, 2), Chainwork.MIXED);
        Due.thrown("24: the other equivalence", STATE, () -> work.law(6, 0, 0, 0));
        Due.same("24: orders of the other sign", work.orders(), 9);
        work.restore(0);
        Due.same("24: orders of the image's sign", work.orders(), 3);
    }

    private static void promise25Undo() {
        Chainwork work = new Chainwork();
        Due.thrown("25: there is none", STATE, work::undo);
        for (int i = 0; i < 10; i++) {
            work.variable(i, 0);
        }
        for (int i = 7; i >= 0; i--) {
            Due.same("25: how many are left", work.undo(), i);
            Due.same("25: the register is empty", work.termAt(i + 2, 0), Chainwork.NONE);
            Due.same("25: the one ahead is not", work.termAt(i + 1, 0), 1);
        }
        Due.thrown("25: only the latest 8", STATE, work::undo);
        work.variable(3, 0);
        work.variable(4, 0);
        Due.same("25: undone", work.undo(), 1);
        work.variable(5, 0);
        Due.same("25: the one of 5", work.undo(), 1);
        Due.same("25: then the one of 3", work.undo(), 0);
        Due.same("25: 3 is empty", work.termAt(3, 0), Chainwork.NONE);
        Due.thrown("25: no more", STATE, work::undo);
    }

    /** Each call under "Changes" can be undone, one by one. */
    private static void promise25EveryChange() {
        Chainwork work = full();
        Due.read(work, 7, "a");
        Due.begin(work, 2, "a");
        Runnable[] changes = {
            () -> work.sign(1, 2, 0), () -> work.variable(5, 1), () -> work.term(5, 1, 0, 0), () -> work.read(5),
            () -> work.part(0, 2, 5), () -> work.law(50, 0, 0, 7), () -> work.condition(1, 7, 7),
            () -> work.equivalence(51, 0, 0, 7, 7), () -> work.assume(7, 0), work::giveUp, () -> work.lemma(52, 1),
            () -> Due.same("25: the end", work.end(53, 1), 0), () -> work.begin(1, 7), () -> work.line(1, 8, 7),
            () -> Due.same("25: the step", work.step(1, 1, 0), 0), () -> work.turn(1), () -> work.join(1, 3, 3),
            () -> work.cut(1, 1, 1, 0), () -> work.take(1, 1, 6), () -> work.find(3, 0, 0, 0, 0), () -> work.restore(0)};
        work.cut(1, 0, 0, 3);
        Due.type(work, "q(a)");
        work.image(0);
        Due.read(work, 6, "b");
        for (int i = 0; i < changes.length; i++) {
            Due.type(work, "q(a)");
            String before = told(work);
            int open = work.open();
            work.image(1);
            changes[i].run();
            String after = told(work);
            Due.yes("25: change " + i + " leaves something to undo", work.undo() >= 0);
            Due.text("25: change " + i + " undone", told(work), before);
            Due.same("25: change " + i + " undone, open", work.open(), open);
            Due.yes("25: change " + i + " changed something", i == 19 || !after.equals(before) || i == 7);
            Due.same("25: the undone change was just one", work.restore(1) >= 0 ? 1 : 0, 1);
            work.undo();
        }
        Chainwork casesWork = work();
        Due.law(casesWork, 1, "p(a,b)", Chainwork.EQUAL, "b");
        Due.condition(casesWork, 1, "a", "a");
        String before = told(casesWork);
        casesWork.cases(2, 1, 1);
        casesWork.undo();
        Due.text("25: cases", told(casesWork), before);
        Due.read(casesWork, 0, "p(a,b)");
        Due.read(casesWork, 1, "b");
        casesWork.equivalence(3, 0, 1, 0, 1);
        Due.law(casesWork, 4, "p(a,b)", Chainwork.EQUAL, "b");
        before = told(casesWork);
        casesWork.across(5, 4, 3, true);
        casesWork.undo();
        Due.text("25: across", told(casesWork), before);
    }

    private static void promise25WhatIsNoChange() {
        Chainwork work = full();
        for (int i = 0; i < 8; i++) {
            work.variable(i, 0);
        }
        work.image(0);
        work.type(97);
        work.clearText();
        work.errorPlace();
        work.write(0);
        work.writeLaw(1);
        work.outputAt(0);
        told(work);
        work.errors();
        work.fails(0, 0, 1, 0);
        work.value(0, 0, 0);
        Due.thrown("25: what throws is no change", STATE, () -> work.law(1, 0, 0, 0));
        Due.thrown("25: nor is this", INDEX, () -> work.begin(0, 10));
        Due.same("25: all 8 are there", work.undo(), 7);
        Due.same("25: the latest one was undone", work.termAt(7, 0), Chainwork.NONE);
        Due.yes("25: the image stays", work.image(0));
    }

    private static void promise26Image() {
        Chainwork work = work();
        Due.no("26: there was none", work.image(0));
        Due.no("26: nor in the other one", work.image(1));
        work.variable(0, 0);
        Due.yes("26: there was one", work.image(0));
        work.variable(0, 1);
        work.restore(0);
        Due.text("26: the new one", Due.written(work, 0), "a");
        work.restore(1);
        Due.same("26: the other one", work.termAt(0, 0), Chainwork.NONE);
        Due.thrown("26: image 2", INDEX, () -> work.image(2));
        Due.thrown("26: image -1", INDEX, () -> work.image(-1));
        work.undo();
        Due.yes("26: it is no change", work.image(1));
    }

    private static void promise27Type() {
        Chainwork work = work();
        Due.same("27: nothing", work.type(0), 0);
        Due.same("27: one byte", work.type('p'), 1);
        Due.same("27: zeros do not count", work.type(0x2800610000002C62L), 5);
        Due.same("27: the highest byte is not a sign", work.type(0x2900000000000000L), 6);
        work.read(0);
        Due.text("27: the highest first", Due.written(work, 0), "p(a,b)");
        Due.same("27: eight", work.type(-1L), 14);
        Due.same("27: the 255s do not fit", work.errorPlace(), 6);
        work.clearText();
        for (int i = 8; i <= 192; i += 8) {
            Due.same("27: eight more", work.type(0x2020202020202020L), i);
        }
        Due.same("27: 199", work.type(0x20202020202020L), 199);
        Due.thrown("27: 201", STATE, () -> work.type(0x2020L));
        Due.same("27: nothing came", work.type(0), 199);
        Due.same("27: 200", work.type('a'), 200);
        Due.thrown("27: one more", STATE, () -> work.type('a'));
        Due.same("27: no more is fine", work.type(0), 200);
        Due.same("27: the last byte counts", work.read(1), 1);
    }

    private static void promise28ClearText() {
        Chainwork work = work();
        Due.same("28: it was empty", work.clearText(), 0);
        work.type(0x616263);
        Due.same("28: its length", work.clearText(), 3);
        Due.same("28: it is empty", work.clearText(), 0);
        Due.same("28: what comes is the first byte", work.type('d'), 1);
        work.read(0);
        Due.text("28: d", Due.written(work, 0), "d");
        work.undo();
        Due.same("28: undo leaves the text", work.clearText(), 1);
    }

    private static void place(Chainwork work, String text, int due) {
        Due.type(work, text);
        Due.same("29: " + text, work.errorPlace(), due);
    }

    private static void promise29ErrorPlace() {
        Chainwork work = work();
        String[] fine = {"a", "d", "r", " a ", "q(a)", "p(a,b)", "p ( q ( r ) , p(a,d) ) ", "  p(r,r)"};
        for (String text : fine) {
            place(work, text, Chainwork.NONE);
        }
        place(work, "", 0);
        place(work, "   ", 3);
        place(work, "e", 0);
        place(work, " e", 1);
        place(work, "A", 0);
        place(work, "s", 0);
        place(work, "o", 0);
        place(work, "t", 0);
        place(work, "`", 0);
        place(work, "a b", 2);
        place(work, "aa", 1);
        place(work, "a)", 1);
        place(work, "a,", 1);
        place(work, "r(", 1);
        place(work, "a(", 1);
        place(work, "p", 1);
        place(work, "p  ", 3);
        place(work, "pa", 1);
        place(work, "p(", 2);
        place(work, "p()", 2);
        place(work, "p(,", 2);
        place(work, "p(a", 3);
        place(work, "p(a)", 3);
        place(work, "p(a,", 4);
        place(work, "p(a,)", 4);
        place(work, "p(a,b", 5);
        place(work, "p(a,b,", 5);
        place(work, "p(a,b))", 6);
        place(work, "p(a,b)a", 6);
        place(work, "p(q(a,b),c)", 5);
        place(work, "p(q(a),s)", 7);
        place(work, "p(q(a)b", 6);
        place(work, "q((a))", 2);
        place(work, "q(a) )", 5);
        place(work, "q\t(a)", 1);
        place(work, "q(\u00e9)", 2);
        work.sign(0, 0, 0);
        place(work, "s", Chainwork.NONE);
        work.undo();
        Due.same("29: without the sign again", work.errorPlace(), 0);
    }

    private static void promise29Letters() {
        Chainwork work = work();
        String deep = "q(".repeat(39);
        place(work, deep + "a" + ")".repeat(39), Chainwork.NONE);
        Due.same("29: 40 letters", work.read(0), 40);
        Due.type(work, deep + "q(a))");
        Due.same("29: the 41st letter", work.errorPlace(), 80);
        Due.thrown("29: read", ARGUMENT, () -> work.read(0));
        StringBuilder wide = new StringBuilder();
        for (int i = 0; i < 20; i++) {
            wide.append("p(a,");
        }
        Due.type(work, wide + "a");
        Due.same("29: the 41st letter, a variable", work.errorPlace(), 80);
        wide.setLength(76);
        Due.type(work, wide + "q(a)" + ")".repeat(19));
        Due.same("29: 40 letters with 40 brackets", work.errorPlace(), Chainwork.NONE);
        Due.same("29: 40", work.read(0), 40);
        Due.type(work, wide + "p(a,b)" + ")".repeat(19));
        Due.same("29: the 41st letter is the last one", work.errorPlace(), 80);
    }

    private static void promise30Write() {
        Chainwork work = work();
        Due.read(work, 0, " p(q( a ),p(b ,r)) ");
        Due.same("30: its length", work.write(0), 14);
        Due.text("30: without blanks", Due.output(work, 14), "p(q(a),p(b,r))");
        Due.read(work, 0, "p(p(q(q(c)),r),p(p(a,b),q(d)))");
        Due.text("30: brackets that end at once", Due.written(work, 0), "p(p(q(q(c)),r),p(p(a,b),q(d)))");
        for (String one : new String[] {"a", "d", "r", "q(r)"}) {
            Due.read(work, 1, one);
            Due.same("30: the length of " + one, work.write(1), one.length());
            Due.text("30: in place of what was there", Due.output(work, one.length()), one);
        }
        String greatest = "q(".repeat(39) + "a" + ")".repeat(39);
        Due.read(work, 1, greatest);
        Due.text("30: a deep one", Due.written(work, 1), greatest);
        Due.text("30: an earlier one", Due.written(work, 0), "p(p(q(q(c)),r),p(p(a,b),q(d)))");
        Due.thrown("30: register 10", INDEX, () -> work.write(10));
        Due.thrown("30: register -1", INDEX, () -> work.write(-1));
        Due.thrown("30: empty", STATE, () -> work.write(9));
        Due.same("30: the output stays", work.outputAt(29), ')');
    }

    private static void promise32OutputAt() {
        Chainwork work = work();
        Due.thrown("32: it is empty at first", ELEMENT, () -> work.outputAt(0));
        Due.read(work, 0, "p(a,b)");
        work.write(0);
        int[] codes = {112, 40, 97, 44, 98, 41};
        for (int i = 0; i < codes.length; i++) {
            Due.same("32: character " + i, work.outputAt(i), codes[i]);
        }
        Due.thrown("32: 6", ELEMENT, () -> work.outputAt(6));
        Due.thrown("32: -1", ELEMENT, () -> work.outputAt(-1));
        Due.thrown("32: the greatest index", ELEMENT, () -> work.outputAt(Integer.MAX_VALUE));
        Due.thrown("32: the least index", ELEMENT, () -> work.outputAt(Integer.MIN_VALUE));
        Due.read(work, 1, "r");
        work.write(1);
        Due.thrown("32: what was there is gone", ELEMENT, () -> work.outputAt(1));
    }
}
