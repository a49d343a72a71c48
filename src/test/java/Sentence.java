import java.util.ArrayList;
import java.util.List;
import java.util.Map;
import java.util.NoSuchElementException;
import java.util.TreeMap;
import java.util.function.Predicate;

/**
 * What the tests of single sentences share: each names a promise or section and the sentence, tries
 * the last values that are allowed and the first ones that are not, and looks whether a refused call
 * left all as it was. EverySentence sees to it that no sentence of the document goes without.
 */
abstract class Sentence {
    static final Class<IndexOutOfBoundsException> INDEX = IndexOutOfBoundsException.class;
    static final Class<IllegalArgumentException> ARGUMENT = IllegalArgumentException.class;
    static final Class<IllegalStateException> STATE = IllegalStateException.class;
    static final Class<NoSuchElementException> ELEMENT = NoSuchElementException.class;
    static final int NONE = Chainwork.NONE;
    static final int RISES = Chainwork.RISES;
    static final int FALLS = Chainwork.FALLS;
    static final int MIXED = Chainwork.MIXED;
    static final int EQUAL = Chainwork.EQUAL;
    static final int LESS = Chainwork.LESS;
    static final int MORE = Chainwork.MORE;
    static final int LOWEST = Integer.MIN_VALUE;
    static final int HIGHEST = Integer.MAX_VALUE;

    static final Calls NOTHING = work -> { };
    /** Something of everything; register 9 is empty, chain 2 has no line, chain 3 is wrong. */
    static final Calls FURNISHED = Sentence::furnish;
    /** The same with d in register 9. */
    static final Calls FILLED = then(FURNISHED, work -> work.variable(9, 3));
    static final Calls FOUR_SIGNS = then(FURNISHED, work -> work.sign(0, 0, 0));
    static final Calls TWENTY_LAWS = then(FURNISHED, work -> lawsUpTo(work, 20));
    static final Calls NINETEEN_LAWS = then(FURNISHED, work -> lawsUpTo(work, 19));

    /** The sentences that were named, by the part of the document where they stand. */
    static final Map<String, List<String>> NAMED = new TreeMap<>();
    private static String now = "no sentence";

    interface Calls {
        void on(Chainwork work);
    }

    interface Answer {
        double of(Chainwork work);
    }

    interface AnswerTo {
        double of(Chainwork work, int number);
    }

    /** What follows is the test of this sentence. */
    static void named(String where, String words) {
        Due.some(now);
        now = where + " \"" + words + "\"";
        NAMED.computeIfAbsent(where, none -> new ArrayList<>()).add(words);
    }

    static Calls then(Calls first, Calls second) {
        return work -> {
            first.on(work);
            second.on(work);
        };
    }

    static Chainwork made(Calls start) {
        Chainwork work = new Chainwork();
        start.on(work);
        return work;
    }

    static void answers(Calls start, Answer call, double due) {
        double got = NONE - 1;
        try {
            got = call.of(made(start));
        } catch (RuntimeException e) {
            Due.text(now, e.toString(), "an answer");
        }
        Due.same(now, got, due);
    }

    static void holds(Calls start, Predicate<Chainwork> call) {
        answers(start, work -> call.test(work) ? 1 : 0, 1);
    }

    static void fails(Calls start, Predicate<Chainwork> call) {
        answers(start, work -> call.test(work) ? 1 : 0, 0);
    }

    static void writes(Calls start, Answer call, String due) {
        Chainwork work = made(start);
        Due.text(now, Due.output(work, (int) call.of(work)), due);
    }

    /** The call throws just this, and all stays as it was. */
    static void refuses(Class<? extends RuntimeException> due, Calls start, Calls call) {
        Due.thrown(now, due, () -> call.on(made(start)));
        for (int part = 0; part < Looks.PARTS; part++) {
            Chainwork tried = made(start);
            try {
                call.on(tried);
            } catch (RuntimeException e) {
                Due.text(now + ": what stays as it was", Looks.at(tried, part), Looks.at(made(start), part));
            }
        }
    }

    /** Both ends of a row of numbers are answered, the next ones beyond them and the farthest refused. */
    static void range(Class<? extends RuntimeException> beyond, Calls start, AnswerTo call,
            int first, double dueOfFirst, int last, double dueOfLast) {
        answers(start, work -> call.of(work, first), dueOfFirst);
        answers(start, work -> call.of(work, last), dueOfLast);
        none(beyond, start, call, first - 1, last + 1, LOWEST, HIGHEST);
    }

    static void none(Class<? extends RuntimeException> due, Calls start, AnswerTo call, int... numbers) {
        for (int number : numbers) {
            refuses(due, start, work -> call.of(work, number));
        }
    }

    /** A term of so many nodes: p(p(..(a)..)). */
    static String tower(int size) {
        return "p(".repeat(size - 1) + "a" + ")".repeat(size - 1);
    }

    static Calls read(int register, String term) {
        return work -> Due.read(work, register, term);
    }

    private static void lawsUpTo(Chainwork work, int count) {
        for (int name = 80; work.laws() < count; name++) {
            work.law(name, 0, EQUAL, 0);
        }
    }

    private static void furnish(Chainwork work) {
        work.sign(1, RISES, 0);
        work.sign(2, RISES, FALLS);
        work.sign(0, 0, 0);
        String[] terms = {"a", "b", "p(a)", "p(p(a))", "q(a,b)", "r", "p(b)", "q(p(a),b)", "c"};
        for (int register = 0; register < terms.length; register++) {
            Due.read(work, register, terms[register]);
        }
        furnishLaws(work);
        work.begin(0, 2);
        work.step(0, 7, 3);
        work.step(0, 3, 2);
        work.begin(3, 0);
        work.line(3, 3, 1);
        work.image(0);
        work.begin(1, 0);
        work.assume(5, 0);
        work.writeLaw(31);
        Due.type(work, "p(a");
    }

    /** Laws 3, 7, 20 (rests on 7), 31 and 32 (two cases), and the equivalence 40. */
    private static void furnishLaws(Chainwork work) {
        work.law(3, 3, EQUAL, 2);
        work.law(7, 0, LESS, 2);
        work.begin(1, 2);
        work.step(1, 7, 3);
        work.lemma(20, 1);
        work.law(31, 4, LESS, 2);
        work.condition(31, 0, 1);
        work.law(32, 4, LESS, 2);
        work.condition(32, 1, 0);
        work.equivalence(40, 2, 1, 0, 6);
    }
}
