/** Promises 1 to 6 and 33 to 36: a new object, signs and terms. */
public final class TermPromises {
    private static final Class<IndexOutOfBoundsException> INDEX = IndexOutOfBoundsException.class;
    private static final Class<IllegalArgumentException> ARGUMENT = IllegalArgumentException.class;
    private static final Class<IllegalStateException> STATE = IllegalStateException.class;

    private TermPromises() { }

    public static void main(String[] args) {
        promise1New();
        promise2Sign();
        promise3Variable();
        promise4Term();
        promise4Largest();
        promise5Read();
        promise6Part();
        promise33Signs();
        promise34TermAt();
        promise35AreSame();
        promise36Direction();
        Due.end("TermPromises");
    }

    private static void promise1New() {
        Chainwork work = new Chainwork();
        Due.same("1: signs", work.signs(), 0);
        Due.same("1: laws", work.laws(), 0);
        Due.same("1: open", work.open(), 0);
        Due.same("1: orders", work.orders(), 1);
        Due.same("1: errors", work.errors(), 0);
        Due.same("1: checksum", work.checksum(), 7);
        for (int i = 0; i < 10; i++) {
            Due.same("1: termAt", work.termAt(i, 0), Chainwork.NONE);
        }
        for (int i = 0; i < 4; i++) {
            Due.same("1: lines", work.lines(i), 0);
        }
        Due.thrown("1: restore", STATE, () -> work.restore(0));
        Due.thrown("1: undo", STATE, work::undo);
        Due.no("1: image", new Chainwork().image(1));
        for (int name = 0; name < 100; name++) {
            int at = name;
            Due.thrown("1: lawAt", java.util.NoSuchElementException.class, () -> work.lawAt(at, 0));
        }
        Chainwork two = new Chainwork();
        two.sign(0, 0, 0);
        Due.same("1: each has its own signs", work.signs(), 0);
    }

    private static void promise2Sign() {
        Chainwork work = new Chainwork();
        Due.thrown("2: places -1", ARGUMENT, () -> work.sign(-1, 0, 0));
        Due.thrown("2: places 3", ARGUMENT, () -> work.sign(3, 0, 0));
        Due.thrown("2: first -1", ARGUMENT, () -> work.sign(1, -1, 0));
        Due.thrown("2: first 3", ARGUMENT, () -> work.sign(2, 3, 0));
        Due.thrown("2: second 3", ARGUMENT, () -> work.sign(2, 0, 3));
        Due.thrown("2: second -1", ARGUMENT, () -> work.sign(2, 2, -1));
        Due.same("2: none was made", work.signs(), 0);
        Due.same("2: p", work.sign(0, 99, -7), 0);
        Due.same("2: q", work.sign(1, 2, -7), 1);
        Due.same("2: r", work.sign(2, 1, 2), 2);
        Due.same("2: s", work.sign(2, 0, 0), 3);
        Due.thrown("2: a fifth one", STATE, () -> work.sign(0, 0, 0));
        Due.thrown("2: the argument is listed ahead of the state", ARGUMENT, () -> work.sign(3, 0, 0));
        Due.same("2: undo takes a sign", work.undo(), 3);
        Due.same("2: again s", work.sign(1, 1, 1), 3);
    }

    private static void promise3Variable() {
        Chainwork work = new Chainwork();
        Due.same("3: the first register", work.variable(9, 3), 1);
        Due.same("3: the second one", work.variable(0, 0), 2);
        Due.same("3: the same one again", work.variable(9, 2), 2);
        Due.text("3: the latest one stands", Due.written(work, 9), "c");
        Due.thrown("3: register -1", INDEX, () -> work.variable(-1, 0));
        Due.thrown("3: register 10", INDEX, () -> work.variable(10, 4));
        Due.thrown("3: variable 4", ARGUMENT, () -> work.variable(0, 4));
        Due.thrown("3: variable -1", ARGUMENT, () -> work.variable(0, -1));
        Due.same("3: undo empties it", work.undo(), 2);
        Due.text("3: what was there", Due.written(work, 9), "d");
    }

    private static void promise4Term() {
        Chainwork work = new Chainwork();
        work.sign(2, 0, 0);
        work.sign(1, 1, 0);
        work.sign(0, 0, 0);
        work.variable(0, 0);
        work.variable(1, 1);
        Due.same("4: two places", work.term(2, 0, 0, 1), 3);
        Due.text("4: p(a,b)", Due.written(work, 2), "p(a,b)");
        Due.same("4: one place", work.term(3, 1, 2, -99), 4);
        Due.text("4: q(p(a,b))", Due.written(work, 3), "q(p(a,b))");
        Due.same("4: no place", work.term(4, 2, 10, -1), 1);
        Due.text("4: r", Due.written(work, 4), "r");
        Due.same("4: into a register that it needs", work.term(3, 0, 3, 4), 6);
        Due.text("4: p(q(p(a,b)),r)", Due.written(work, 3), "p(q(p(a,b)),r)");
        Due.thrown("4: register 10", INDEX, () -> work.term(10, 0, 0, 0));
        Due.thrown("4: register -1", INDEX, () -> work.term(-1, 0, 0, 0));
        Due.thrown("4: sign 3", INDEX, () -> work.term(5, 3, 0, 0));
        Due.thrown("4: sign -1", INDEX, () -> work.term(5, -1, 0, 0));
        Due.thrown("4: first 10", INDEX, () -> work.term(5, 0, 10, 0));
        Due.thrown("4: first -1", INDEX, () -> work.term(5, 1, -1, 0));
        Due.thrown("4: second 10, though the first one is empty", INDEX, () -> work.term(5, 0, 9, 10));
        Due.thrown("4: first empty", STATE, () -> work.term(5, 0, 9, 0));
        Due.thrown("4: second empty", STATE, () -> work.term(5, 0, 0, 9));
        Due.thrown("4: one place empty", STATE, () -> work.term(5, 1, 9, 0));
        Due.same("4: nothing came", work.termAt(5, 0), Chainwork.NONE);
    }

    private static void promise4Largest() {
        Chainwork work = new Chainwork();
        work.sign(2, 0, 0);
        work.sign(1, 0, 0);
        work.variable(0, 0);
        work.variable(1, 1);
        Due.same("4: 3", work.term(0, 0, 0, 0), 3);
        Due.same("4: 7", work.term(0, 0, 0, 0), 7);
        Due.same("4: 15", work.term(0, 0, 0, 0), 15);
        Due.same("4: 19", work.term(2, 0, 1, 0), 17);
        work.term(2, 1, 2, 0);
        work.term(2, 1, 2, 0);
        Due.same("4: 19", work.termAt(2, 0), 19);
        Due.same("4: 39", work.term(3, 0, 2, 2), 39);
        Due.same("4: 40", work.term(3, 1, 3, 0), 40);
        Due.same("4: 40 is kept", work.termAt(3, 0), 40);
        Due.thrown("4: 41", STATE, () -> work.term(3, 1, 3, 0));
        Due.thrown("4: 42", STATE, () -> work.term(4, 0, 3, 1));
        Due.same("4: still 40", work.termAt(3, 0), 40);
        Due.same("4: nothing came", work.termAt(4, 0), Chainwork.NONE);
    }

    private static void promise5Read() {
        Chainwork work = new Chainwork();
        work.sign(2, 0, 0);
        work.sign(1, 1, 0);
        work.sign(0, 0, 0);
        Due.same("5: read", Due.read(work, 0, " p ( q(a) , r ) "), 4);
        Due.text("5: without blanks", Due.written(work, 0), "p(q(a),r)");
        Due.same("5: the text stays", work.read(1), 4);
        Due.yes("5: the same term", work.areSame(0, 1));
        Due.thrown("5: register 10", INDEX, () -> work.read(10));
        Due.type(work, "p(a");
        Due.thrown("5: register -1 with an error", INDEX, () -> work.read(-1));
        Due.thrown("5: too short", ARGUMENT, () -> work.read(2));
        Due.type(work, "s");
        Due.thrown("5: no such sign", ARGUMENT, () -> work.read(2));
        Due.type(work, "");
        Due.thrown("5: no text", ARGUMENT, () -> work.read(2));
        Due.same("5: nothing came", work.termAt(2, 0), Chainwork.NONE);
        Due.text("5: what was there stays", Due.written(work, 0), "p(q(a),r)");
        Due.same("5: one letter", Due.read(work, 2, "d"), 1);
        Due.same("5: a sign without places", Due.read(work, 2, "r"), 1);
    }

    private static void promise6Part() {
        Chainwork work = new Chainwork();
        work.sign(2, 0, 0);
        work.sign(1, 1, 0);
        Due.read(work, 0, "p(q(a),p(b,q(c)))");
        String[] parts = {"p(q(a),p(b,q(c)))", "q(a)", "a", "p(b,q(c))", "b", "q(c)", "c"};
        for (int i = 0; i < parts.length; i++) {
            int size = parts[i].replaceAll("[(),]", "").length();
            Due.same("6: size of part " + i, work.part(0, i, 1), size);
            Due.text("6: part " + i, Due.written(work, 1), parts[i]);
        }
        Due.thrown("6: place 7", INDEX, () -> work.part(0, 7, 1));
        Due.thrown("6: place -1", INDEX, () -> work.part(0, -1, 1));
        Due.thrown("6: register 10", INDEX, () -> work.part(10, 0, 1));
        Due.thrown("6: register -1", INDEX, () -> work.part(-1, 0, 1));
        Due.thrown("6: into 10", INDEX, () -> work.part(0, 0, 10));
        Due.thrown("6: into -1", INDEX, () -> work.part(0, 0, -1));
        Due.thrown("6: into 10 from an empty one", INDEX, () -> work.part(9, 0, 10));
        Due.thrown("6: an empty register", STATE, () -> work.part(9, 0, 1));
        Due.same("6: into itself", work.part(0, 3, 0), 4);
        Due.text("6: the part alone", Due.written(work, 0), "p(b,q(c))");
        Due.same("6: the directions are those of the part", work.direction(0, 2), Chainwork.RISES);
    }

    private static void promise33Signs() {
        Chainwork work = new Chainwork();
        for (int i = 0; i < 4; i++) {
            Due.same("33: signs", work.signs(), i);
            work.sign(i % 3, 0, 0);
        }
        Due.same("33: four", work.signs(), 4);
        work.undo();
        Due.same("33: three after undo", work.signs(), 3);
    }

    private static void promise34TermAt() {
        Chainwork work = new Chainwork();
        work.sign(2, 0, 0);
        work.sign(1, 1, 0);
        work.sign(0, 0, 0);
        Due.read(work, 0, "q(p(p(b,q(d)),r))");
        Due.same("34: size", work.termAt(0, 0), 7);
        Due.same("34: depth", work.termAt(0, 1), 5);
        Due.same("34: variables b and d", work.termAt(0, 2), 10);
        Due.same("34: sign q", work.termAt(0, 3), 1);
        Due.read(work, 1, "p(r,p(a,c))");
        Due.same("34: depth of the second part", work.termAt(1, 1), 3);
        Due.same("34: variables a and c", work.termAt(1, 2), 5);
        Due.same("34: sign p", work.termAt(1, 3), 0);
        Due.read(work, 2, "r");
        Due.same("34: size of r", work.termAt(2, 0), 1);
        Due.same("34: depth of r", work.termAt(2, 1), 1);
        Due.same("34: variables of r", work.termAt(2, 2), 0);
        Due.same("34: sign r", work.termAt(2, 3), 2);
        Due.read(work, 3, "d");
        Due.same("34: depth of d", work.termAt(3, 1), 1);
        Due.same("34: variables of d", work.termAt(3, 2), 8);
        Due.same("34: no sign", work.termAt(3, 3), Chainwork.NONE);
        for (int what = 0; what < 4; what++) {
            Due.same("34: an empty register", work.termAt(9, what), Chainwork.NONE);
        }
        Due.thrown("34: register 10", INDEX, () -> work.termAt(10, 4));
        Due.thrown("34: register -1", INDEX, () -> work.termAt(-1, 0));
        Due.thrown("34: what 4", ARGUMENT, () -> work.termAt(0, 4));
        Due.thrown("34: what -1", ARGUMENT, () -> work.termAt(0, -1));
        Due.thrown("34: what 4 of an empty one", ARGUMENT, () -> work.termAt(9, 4));
    }

    private static void promise35AreSame() {
        Chainwork work = new Chainwork();
        work.sign(2, 0, 0);
        Due.read(work, 0, "p(a,b)");
        Due.read(work, 1, "p(a,b)");
        Due.read(work, 2, "p(b,a)");
        Due.read(work, 3, "p(p(a,b),c)");
        Due.read(work, 4, "p(p(a,b),d)");
        Due.yes("35: the same", work.areSame(0, 1));
        Due.yes("35: itself", work.areSame(3, 3));
        Due.no("35: another order", work.areSame(0, 2));
        Due.no("35: another size", work.areSame(0, 3));
        Due.no("35: another last letter", work.areSame(3, 4));
        Due.no("35: one empty", work.areSame(0, 9));
        Due.no("35: the other one empty", work.areSame(9, 0));
        Due.no("35: both empty", work.areSame(8, 9));
        Due.thrown("35: 10", INDEX, () -> work.areSame(10, 0));
        Due.thrown("35: -1", INDEX, () -> work.areSame(0, -1));
        Due.thrown("35: second 10", INDEX, () -> work.areSame(9, 10));
    }

    private static void promise36Direction() {
        Chainwork work = new Chainwork();
        work.sign(2, 0, 1);
        work.sign(1, 1, 0);
        work.sign(2, 2, 1);
        Due.read(work, 0, "p(q(q(a)),r(q(b),q(c)))");
        // p: its parts rise and fall; q turns round; what is around a MIXED place does not matter
        int[] due = {0, 0, 1, 0, 1, 2, 2, 0, 1};
        for (int i = 0; i < due.length; i++) {
            Due.same("36: place " + i, work.direction(0, i), due[i]);
        }
        Due.read(work, 1, "p(p(a,b),p(a,b))");
        int[] nested = {0, 0, 0, 1, 1, 1, 0};
        for (int i = 0; i < nested.length; i++) {
            Due.same("36: nested place " + i, work.direction(1, i), nested[i]);
        }
        Due.same("36: a variable", work.direction(0, 0), Chainwork.RISES);
        Due.thrown("36: place 9", INDEX, () -> work.direction(0, 9));
        Due.thrown("36: place -1", INDEX, () -> work.direction(0, -1));
        Due.thrown("36: register 10", INDEX, () -> work.direction(10, 0));
        Due.thrown("36: register -1", INDEX, () -> work.direction(-1, 0));
        Due.thrown("36: an empty register", STATE, () -> work.direction(9, 0));
    }
}
