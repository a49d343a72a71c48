/** Promises 46 to 52: small orders and measures. */
public final class OrderPromises {
    private static final Class<IndexOutOfBoundsException> INDEX = IndexOutOfBoundsException.class;
    private static final Class<IllegalArgumentException> ARGUMENT = IllegalArgumentException.class;
    private static final Class<IllegalStateException> STATE = IllegalStateException.class;

    private OrderPromises() { }

    public static void main(String[] args) {
        promise46Directions();
        promise46Laws();
        promise46Conditions();
        promise46Equivalences();
        promise46Changes();
        promise47Fails();
        promise47Neighbours();
        promise47Signs();
        promise47Refused();
        promise48Value();
        promise48Refused();
        promise49MeanLines();
        promise50ProvedShare();
        promise51Checksum();
        promise52Errors();
        Due.end("OrderPromises");
    }

    private static int orders(int... places) {
        Chainwork work = new Chainwork();
        for (int i = 0; i + 2 < places.length; i += 3) {
            work.sign(places[i], places[i + 1], places[i + 2]);
        }
        return work.orders();
    }

    private static void promise46Directions() {
        Due.same("46: without signs", orders(), 1);
        Due.same("46: no place", orders(0, 0, 0), 2);
        Due.same("46: rises", orders(1, 0, 0), 3);
        Due.same("46: falls", orders(1, 1, 0), 3);
        Due.same("46: mixed", orders(1, 2, 0), 4);
        Due.same("46: both rise", orders(2, 0, 0), 6);
        Due.same("46: rises and falls", orders(2, 0, 1), 6);
        Due.same("46: both fall", orders(2, 1, 1), 6);
        Due.same("46: rises and mixed", orders(2, 0, 2), 9);
        Due.same("46: mixed and falls", orders(2, 2, 1), 9);
        Due.same("46: both mixed", orders(2, 2, 2), 16);
        Due.same("46: several signs", orders(2, 0, 0, 1, 1, 0, 0, 0, 0), 36);
        Due.same("46: four signs", orders(0, 0, 0, 1, 2, 0, 2, 0, 2, 2, 1, 1), 2 * 4 * 9 * 6);
        Due.same("46: all", orders(2, 2, 2, 2, 2, 2, 2, 2, 2, 2, 2, 2), 65536);
    }

    private static void promise46Laws() {
        Chainwork work = new Chainwork();
        work.sign(2, 0, 0);
        Due.law(work, 1, "p(a,b)", Chainwork.EQUAL, "p(b,a)");
        Due.same("46: commuting", work.orders(), 4);
        Due.law(work, 2, "p(a,a)", Chainwork.EQUAL, "a");
        Due.same("46: least and greatest", work.orders(), 2);
        work.sign(0, 0, 0);
        Due.same("46: with a sign more", work.orders(), 4);
        Due.law(work, 3, "p(a,q)", Chainwork.LESS, "q");
        Due.same("46: q is 1 with least, or 0 with least, or 1 with greatest", work.orders(), 3);
        Due.law(work, 4, "q", Chainwork.LESS, "a");
        Due.same("46: q is the least", work.orders(), 1);
        Due.law(work, 5, "a", Chainwork.LESS, "q");
        Due.same("46: none is left", work.orders(), 0);
        Chainwork other = new Chainwork();
        Due.law(other, 5, "a", Chainwork.LESS, "b");
        Due.same("46: without signs", other.orders(), 0);
        Chainwork four = new Chainwork();
        for (int i = 0; i < 4; i++) {
            four.sign(0, 0, 0);
        }
        Due.law(four, 1, "s", Chainwork.LESS, "p");
        Due.same("46: 16 without those with s 1 and p 0", four.orders(), 12);
        Due.law(four, 2, "a", Chainwork.LESS, "s");
        Due.same("46: s alone", four.orders(), 4);
        four.undo();
        Due.law(four, 2, "q", Chainwork.LESS, "a");
        Due.same("46: q alone", four.orders(), 6);
        Due.law(four, 3, "r", Chainwork.LESS, "a");
        Due.same("46: r alone", four.orders(), 3);
        Due.law(four, 4, "p", Chainwork.LESS, "a");
        Due.same("46: p alone", four.orders(), 1);
    }

    private static void promise46Conditions() {
        Chainwork work = new Chainwork();
        work.sign(2, 0, 0);
        Due.law(work, 1, "p(a,b)", Chainwork.EQUAL, "b");
        Due.same("46: the second value", work.orders(), 1);
        Due.condition(work, 1, "a", "b");
        Due.same("46: the second or the greatest one", work.orders(), 2);
        Due.condition(work, 1, "p(a,a)", "b");
        Due.same("46: second, greatest, or always 1", work.orders(), 3);
        work.undo();
        Due.same("46: undone", work.orders(), 2);
        // a proved law takes no order away
        Due.assume(work, "a", "b");
        Due.begin(work, 0, "p(p(a,b),a)");
        Due.step(work, 0, 1, "p(b,a)");
        int before = work.orders();
        work.end(9, 0);
        Due.same("46: a proved law", work.orders(), before);
        Due.same("46: nor does an assumption", work.assume(8, 9) == 100 ? work.orders() : -9, before);
    }

    private static void promise46Equivalences() {
        Chainwork work = new Chainwork();
        work.sign(1, 1, 0);
        work.variable(0, 0);
        work.variable(1, 1);
        work.term(2, 0, 0, 0);
        work.term(3, 0, 1, 0);
        work.equivalence(5, 0, 3, 1, 2);
        Due.same("46: not, or always 1", work.orders(), 2);
        Due.read(work, 4, "p(p(a))");
        work.equivalence(6, 0, 1, 4, 1);
        Due.same("46: not alone", work.orders(), 1);
        work.equivalence(7, 0, 1, 1, 0);
        Due.same("46: none", work.orders(), 0);
    }

    private static void promise46Changes() {
        Chainwork work = new Chainwork();
        work.sign(2, 0, 0);
        work.image(0);
        Due.law(work, 1, "p(a,b)", Chainwork.EQUAL, "p(b,a)");
        Due.same("46: with a law", work.orders(), 4);
        work.undo();
        Due.same("46: after undo", work.orders(), 6);
        Due.law(work, 1, "p(a,b)", Chainwork.EQUAL, "a");
        Due.same("46: another law by the same count of changes", work.orders(), 1);
        work.restore(0);
        Due.same("46: after restore", work.orders(), 6);
        work.undo();
        Due.same("46: after undo of it", work.orders(), 1);
        work.sign(1, 0, 0);
        Due.same("46: one more sign", work.orders(), 3);
    }

    private static void promise47Fails() {
        Chainwork work = new Chainwork();
        work.sign(2, 0, 0);
        Due.law(work, 1, "p(a,a)", Chainwork.EQUAL, "a");
        // the orders are 8 least, 10 first, 12 second, 14 greatest
        Due.read(work, 0, "p(a,b)");
        Due.read(work, 1, "p(b,a)");
        Due.read(work, 2, "a");
        Due.same("47: from 0", work.fails(0, 0, 1, 0), 10);
        Due.same("47: from it", work.fails(0, 0, 1, 10), 10);
        Due.same("47: behind it", work.fails(0, 0, 1, 11), 12);
        Due.same("47: the last one", work.fails(0, 0, 1, 12), 12);
        Due.same("47: no more", work.fails(0, 0, 1, 13), Chainwork.NONE);
        Due.same("47: LESS", work.fails(0, 1, 2, 0), 12);
        Due.same("47: LESS, the next one", work.fails(0, 1, 2, 13), 14);
        Due.same("47: the other way round", work.fails(2, 1, 0, 0), 8);
        Due.same("47: the other way round, the next one", work.fails(2, 1, 0, 9), 12);
        Due.same("47: EQUAL", work.fails(2, 0, 0, 0), 8);
        Due.same("47: what holds", work.fails(0, 0, 0, 0), Chainwork.NONE);
        Due.same("47: the greatest number", work.fails(0, 0, 1, 65535), Chainwork.NONE);
        Due.read(work, 3, "b");
        Due.same("47: no signs in the line", work.fails(2, 1, 3, 0), 8);
        Due.read(work, 4, "c");
        Due.read(work, 5, "p(c,d)");
        Due.read(work, 6, "p(d,c)");
        Due.same("47: with c and d", work.fails(5, 1, 6, 0), 10);
        Due.same("47: c and a", work.fails(4, 1, 2, 9), 10);
        Due.assume(work, "p(a,b)", "p(b,a)");
        Due.same("47: assumptions do not count", work.fails(0, 1, 1, 0), 10);
    }

    /** Orders one beside the other: the first one of each pair obeys, and the line holds in it. */
    private static void promise47Neighbours() {
        Chainwork work = new Chainwork();
        work.sign(0, 0, 0);
        work.sign(0, 0, 0);
        Due.read(work, 0, "p");
        Due.read(work, 1, "a");
        Due.read(work, 2, "q");
        Due.same("47: p is 1", work.fails(0, 1, 1, 0), 1);
        Due.same("47: q is 0, p is 1", work.fails(0, 1, 2, 0), 1);
        Due.same("47: q is 1, p is 0", work.fails(2, 1, 0, 0), 16);
        Due.same("47: both are 0", work.fails(1, 1, 0, 0), 0);
        Due.same("47: p is 0, q is 1", work.fails(1, 1, 0, 1), 16);
        Due.same("47: not the same", work.fails(0, 0, 2, 2), 16);
        Due.same("47: all fail", work.fails(0, 0, 1, 17), 17);
    }

    private static void promise47Signs() {
        Chainwork work = new Chainwork();
        work.sign(2, 0, 0);
        work.sign(1, 1, 0);
        Due.law(work, 1, "p(a,a)", Chainwork.EQUAL, "a");
        Due.read(work, 0, "q(q(a))");
        Due.read(work, 1, "a");
        // q is 0, 1 (not) or 3; with not the line holds
        Due.same("47: q 0", work.fails(0, 0, 1, 0), 8);
        Due.same("47: q 0, too", work.fails(0, 0, 1, 13), 14);
        Due.same("47: q 3", work.fails(0, 0, 1, 15), 56);
        Due.same("47: the last one", work.fails(0, 0, 1, 62), 62);
        Due.same("47: no more", work.fails(0, 0, 1, 63), Chainwork.NONE);
        work.sign(0, 0, 0);
        work.sign(1, 0, 0);
        Due.read(work, 2, "s(q(r))");
        Due.read(work, 3, "r");
        // least: p 8, q 0, r 1 (value 1), s 0: 0 is less than 1, but not equal
        Due.same("47: four signs", work.fails(2, 0, 3, 0), 8 + 256);
        Due.same("47: LESS", work.fails(2, 1, 3, 0), 8 + 16 + 4096 * 2);
        Due.same("47: the last one of all", work.fails(2, 1, 3, 14 + 48 + 4096 * 3), 14 + 48 + 4096 * 3);
        Due.same("47: behind it", work.fails(2, 1, 3, 15 + 48 + 4096 * 3), Chainwork.NONE);
    }

    private static void promise47Refused() {
        Chainwork work = new Chainwork();
        work.variable(0, 0);
        Due.thrown("47: left 10", INDEX, () -> work.fails(10, 2, 9, 0));
        Due.thrown("47: left -1", INDEX, () -> work.fails(-1, 0, 0, 0));
        Due.thrown("47: right 10", INDEX, () -> work.fails(9, 0, 10, -1));
        Due.thrown("47: left empty", STATE, () -> work.fails(9, 2, 0, 0));
        Due.thrown("47: right empty", STATE, () -> work.fails(0, 0, 9, -1));
        Due.thrown("47: MORE", ARGUMENT, () -> work.fails(0, 2, 0, 0));
        Due.thrown("47: relation -1", ARGUMENT, () -> work.fails(0, -1, 0, 0));
        Due.thrown("47: from -1", ARGUMENT, () -> work.fails(0, 0, 0, -1));
        Due.thrown("47: from 65536", ARGUMENT, () -> work.fails(0, 0, 0, 65536));
    }

    private static void promise48Value() {
        Chainwork work = new Chainwork();
        work.sign(2, 0, 1);
        work.sign(1, 1, 0);
        work.sign(0, 0, 0);
        String[] variables = {"a", "b", "c", "d"};
        for (int i = 0; i < 4; i++) {
            Due.read(work, i, variables[i]);
            for (int values = 0; values < 16; values++) {
                Due.same("48: " + variables[i], work.value(0, i, values), values >> i & 1);
            }
        }
        Due.read(work, 4, "p(a,b)");
        for (int way = 0; way < 16; way++) {
            for (int values = 0; values < 4; values++) {
                Due.same("48: p " + way, work.value(way + 0xFFF0, 4, values), way >> values & 1);
            }
        }
        Due.read(work, 5, "q(d)");
        for (int way = 0; way < 4; way++) {
            Due.same("48: q of 0", work.value(way * 16, 5, 7), way & 1);
            Due.same("48: q of 1", work.value(way * 16 + 0xFF0F, 5, 8), way >> 1);
            Due.same("48: beyond what q needs", work.value((way + 4) * 16, 5, 8), way >> 1);
            Due.same("48: far beyond", work.value((way + 12) * 16, 5, 0), way & 1);
        }
        Due.read(work, 6, "r");
        for (int digit = 0; digit < 16; digit++) {
            Due.same("48: r", work.value(digit * 256 + 0xF0FF, 6, 15), digit & 1);
        }
        Due.read(work, 7, "p(q(a),p(r,b))");
        // p is 2 (first and not second), q is 1 (not), r is 1: not a, and not (1 and not b)
        int order = 2 + 16 + 256;
        for (int values = 0; values < 4; values++) {
            int due = (values & 1) == 0 && (values & 2) != 0 ? 1 : 0;
            Due.same("48: a nested one, " + values, work.value(order, 7, values), due);
        }
        Due.law(work, 1, "a", Chainwork.LESS, "b");
        Due.same("48: it need not obey", work.value(order, 7, 2), 1);
    }

    private static void promise48Refused() {
        Chainwork work = new Chainwork();
        work.variable(0, 0);
        Due.thrown("48: register 10", INDEX, () -> work.value(-1, 10, 16));
        Due.thrown("48: register -1", INDEX, () -> work.value(0, -1, 0));
        Due.thrown("48: empty", STATE, () -> work.value(65536, 9, -1));
        Due.thrown("48: order -1", ARGUMENT, () -> work.value(-1, 0, 0));
        Due.thrown("48: order 65536", ARGUMENT, () -> work.value(65536, 0, 0));
        Due.thrown("48: values -1", ARGUMENT, () -> work.value(0, 0, -1));
        Due.thrown("48: values 16", ARGUMENT, () -> work.value(0, 0, 16));
        Due.same("48: the greatest ones", work.value(65535, 0, 15), 1);
    }

    private static void promise49MeanLines() {
        Chainwork work = new Chainwork();
        Due.same("49: without any", work.meanLines(), 0.0);
        work.variable(0, 0);
        work.begin(3, 0);
        Due.same("49: one line", work.meanLines(), 1.0);
        work.begin(1, 0);
        work.line(1, 0, 0);
        Due.same("49: three lines of two chains", work.meanLines(), 1.5);
        work.begin(0, 0);
        work.line(0, 0, 0);
        Due.same("49: five lines of three chains", work.meanLines(), 5.0 / 3.0);
    }

    private static void promise50ProvedShare() {
        Chainwork work = new Chainwork();
        Due.same("50: without laws", work.provedShare(), 0.0f);
        work.variable(0, 0);
        work.law(50, 0, 0, 0);
        Due.same("50: a told one", work.provedShare(), 0.0f);
        work.begin(0, 0);
        work.lemma(0, 0);
        Due.same("50: a half", work.provedShare(), 0.5f);
        work.law(51, 0, 0, 0);
        Due.same("50: a third", work.provedShare(), 1.0f / 3.0f);
        work.lemma(99, 0);
        work.lemma(98, 0);
        Due.same("50: three of five", work.provedShare(), 3.0f / 5.0f);
        work.equivalence(1, 0, 0, 0, 0);
        work.assume(0, 0);
        Due.same("50: equivalences and assumptions are no laws", work.provedShare(), 3.0f / 5.0f);
    }

    private static void promise51Checksum() {
        Chainwork work = new Chainwork();
        work.sign(2, 0, 0);
        Due.same("51: no law", work.checksum(), 7);
        Due.law(work, 60, "p(a,b)", Chainwork.EQUAL, "a");
        Due.same("51: law 60", work.checksum(), 7 * 31 + 60 + 300 + 10000);
        Due.law(work, 3, "b", Chainwork.LESS, "p(a,p(a,b))");
        long first = 7 * 31 + 3 + 100 + 50000;
        Due.same("51: law 3 comes first", work.checksum(), first * 31 + 60 + 300 + 10000);
        Due.condition(work, 3, "a", "b");
        Due.same("51: conditions do not matter", work.checksum(), first * 31 + 60 + 300 + 10000);
        long sum = 7;
        Chainwork many = new Chainwork();
        many.variable(0, 0);
        for (int i = 0; i < 20; i++) {
            many.law(i, 0, 0, 0);
            sum = sum * 31 + i + 100 + 10000;
        }
        Due.same("51: longs that go round", many.checksum() == sum ? 1 : 0, 1);
    }

    private static void promise52Errors() {
        Chainwork work = new Chainwork();
        Due.same("52: new", work.errors(), 0);
        work.sign(2, 0, 0);
        work.sign(1, 1, 0);
        Due.law(work, 1, "p(a,b)", Chainwork.EQUAL, "b");
        Due.condition(work, 1, "a", "b");
        Due.law(work, 2, "p(a,b)", Chainwork.LESS, "a");
        Due.assume(work, "a", "c");
        Due.begin(work, 0, "q(p(p(a,c),b))");
        Due.step(work, 0, 1, "q(p(c,b))");
        Due.same("52: with an open assumption", work.errors(), 0);
        Due.begin(work, 1, "q(c)");
        Due.step(work, 1, 100, "q(a)");
        Due.same("52: MORE or LESS", work.relation(1), Chainwork.LESS);
        Due.begin(work, 2, "c");
        Due.step(work, 2, 100, "a");
        Due.same("52: MORE", work.relation(2), Chainwork.MORE);
        Due.same("52: three chains", work.errors(), 0);
        work.end(5, 0);
        Due.same("52: a law with a condition", work.errors(), 0);
        Due.begin(work, 3, "a");
        Due.line(work, 3, 2, "b");
        Due.same("52: a wrong chain is no error", work.errors(), 0);
        Due.law(work, 7, "a", Chainwork.LESS, "b");
        Due.same("52: without any order", work.errors(), 0);
    }
}
