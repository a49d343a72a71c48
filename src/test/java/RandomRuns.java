import java.lang.reflect.InvocationTargetException;
import java.lang.reflect.Method;
import java.util.ArrayList;
import java.util.HashMap;
import java.util.List;
import java.util.Map;
import java.util.Random;

/**
 * Runs of calls, made by a seeded random source, on the class and on the oracle side by side: each
 * answer and each exception must be the same. The calls are led so that steps, proofs, searches and
 * small orders come about often, with wild arguments in between.
 */
public final class RandomRuns {
    private static final Map<String, Method[]> CALLS = new HashMap<>();
    private static final List<String> NAMES = new ArrayList<>();
    private static final int[] WILD = {-1, 0, 1, 2, 3, 4, 5, 9, 10, 12, 15, 16, 25, 99, 100, 101, 102, 103, 65535, 65536,
        Integer.MIN_VALUE, Integer.MAX_VALUE};
    private static int wrong = 0;
    private static final Map<String, int[]> TALLY = new HashMap<>();

    private final Random random;
    private final Chainwork work = new Chainwork();
    private final Oracle oracle = new Oracle();
    private final StringBuilder story = new StringBuilder();
    private boolean isRight = true;

    private RandomRuns(long seed) {
        random = new Random(seed);
    }

    public static void main(String[] args) throws ReflectiveOperationException {
        for (Method method : Chainwork.class.getDeclaredMethods()) {
            if (java.lang.reflect.Modifier.isPublic(method.getModifiers())) {
                Method twin = Oracle.class.getMethod(method.getName(), method.getParameterTypes());
                CALLS.put(method.getName(), new Method[] {method, twin});
                NAMES.add(method.getName());
            }
        }
        NAMES.sort(null);
        int runs = args.length > 1 ? Integer.parseInt(args[1]) : 400;
        long from = args.length > 2 ? Long.parseLong(args[2]) : 1;
        for (long seed = from; seed < from + runs && wrong < 5; seed++) {
            RandomRuns run = new RandomRuns(seed);
            run.play();
            if (!run.isRight) {
                wrong++;
                System.out.println("seed " + seed + ":\n" + run.story);
            }
        }
        StringBuilder seldom = new StringBuilder();
        for (String name : NAMES) {
            int[] tally = TALLY.getOrDefault(name, new int[2]);
            if (args.length > 3) {
                System.out.println(name + ": " + tally[0] + " answers, " + tally[1] + " exceptions");
            }
            seldom.append(tally[0] == 0 ? " " + name : "");
        }
        System.out.println("RandomRuns: " + runs + " runs, " + wrong + " of them wrong; never answered:" + seldom);
        if (wrong != 0 || seldom.length() > 0) {
            System.exit(1);
        }
    }

    // ---- calls

    private static String answer(Object on, Method method, Object[] args) {
        try {
            Object got = method.invoke(on, args);
            return String.valueOf(got);
        } catch (InvocationTargetException e) {
            return e.getCause().getClass().getSimpleName();
        } catch (IllegalAccessException e) {
            throw new AssertionError(e);
        }
    }

    /** Calls both; returns whether they answered, that is threw no exception. */
    private boolean go(String name, Object... args) {
        Method[] pair = CALLS.get(name);
        String got = answer(work, pair[0], args);
        String want = answer(oracle, pair[1], args);
        story.append(name).append(java.util.Arrays.toString(args)).append(" -> ").append(got).append('\n');
        boolean isThrown = want.endsWith("Exception");
        TALLY.computeIfAbsent(name, key -> new int[2])[isThrown ? 1 : 0]++;
        if (!got.equals(want) && isRight) {
            isRight = false;
            story.append("  BUT DUE IS ").append(want).append('\n');
        }
        return !isThrown;
    }

    private void wild() {
        String name = NAMES.get(random.nextInt(NAMES.size()));
        Class<?>[] types = CALLS.get(name)[0].getParameterTypes();
        Object[] args = new Object[types.length];
        int bad = random.nextInt(3);
        for (int i = 0; i < args.length; i++) {
            int number = random.nextInt(6) < bad ? WILD[random.nextInt(WILD.length)] : random.nextInt(5);
            if (types[i] == boolean.class) {
                args[i] = random.nextBoolean();
            } else if (types[i] == long.class) {
                args[i] = random.nextInt(4) == 0 ? random.nextLong() : bytes(blanked(tree(2).text), 0);
            } else {
                args[i] = number;
            }
        }
        go(name, args);
    }

    // ---- terms

    private int number(int bound) {
        return random.nextInt(bound);
    }

    private Oracle.Tree leaf() {
        for (int tries = 0; tries < 3; tries++) {
            int sign = number(4);
            if (sign < oracle.world.signs.size() && oracle.world.signs.get(sign)[0] == 0) {
                return new Oracle.Tree((char) ('p' + sign), List.of());
            }
        }
        return new Oracle.Tree((char) ('a' + number(random.nextBoolean() ? 2 : 4)), List.of());
    }

    private Oracle.Tree tree(int depth) {
        if (depth == 0 || oracle.world.signs.isEmpty() || number(4) == 0) {
            return leaf();
        }
        int sign = number(oracle.world.signs.size());
        List<Oracle.Tree> parts = new ArrayList<>();
        for (int i = 0; i < oracle.world.signs.get(sign)[0]; i++) {
            parts.add(tree(depth - 1));
        }
        return new Oracle.Tree((char) ('p' + sign), parts);
    }

    private String blanked(String text) {
        StringBuilder made = new StringBuilder();
        for (char letter : text.toCharArray()) {
            made.append(number(12) == 0 ? " " : "").append(letter);
        }
        if (number(25) == 0) {
            made.setCharAt(number(made.length()), "(),adpsq x\u00e9".charAt(number(11)));
        }
        return made.append(number(15) == 0 ? " " : "").toString();
    }

    private static long bytes(String text, int from) {
        long made = 0;
        for (int i = from; i < Math.min(from + 8, text.length()); i++) {
            made = made << 8 | text.charAt(i);
        }
        return made;
    }

    private boolean put(int register, Oracle.Tree tree) {
        String text = number(4) == 0 ? blanked(tree.text) : tree.text;
        go("clearText");
        for (int i = 0; i < text.length(); i += 8) {
            go("type", bytes(text, i));
        }
        if (number(10) == 0) {
            go("errorPlace");
        }
        return go("read", register);
    }

    // ---- laws

    private int name() {
        return number(8) == 0 ? number(100) : number(24);
    }

    private int someLaw() {
        List<Integer> names = new ArrayList<>(oracle.world.laws.keySet());
        return names.isEmpty() || number(20) == 0 ? name() : names.get(number(names.size()));
    }

    private void tellLaw() {
        Oracle.Tree left = tree(1 + number(3));
        put(0, left);
        put(1, number(12) == 0 ? left : tree(number(3)));
        go("law", name(), 0, number(15) == 0 ? 2 : number(2), 1);
    }

    /** A law that most signs obey: so that small orders stay. */
    private void tellTameLaw() {
        List<Oracle.Tree> terms = new ArrayList<>();
        Oracle.Tree a = new Oracle.Tree('a', List.of());
        Oracle.Tree b = new Oracle.Tree('b', List.of());
        for (int i = 0; i < oracle.world.signs.size(); i++) {
            char sign = (char) ('p' + i);
            int places = oracle.world.signs.get(i)[0];
            if (places == 2) {
                terms.add(new Oracle.Tree(sign, List.of(a, b)));
                terms.add(new Oracle.Tree(sign, List.of(b, a)));
                terms.add(new Oracle.Tree(sign, List.of(a, a)));
            } else if (places == 1) {
                terms.add(new Oracle.Tree(sign, List.of(a)));
                terms.add(new Oracle.Tree(sign, List.of(new Oracle.Tree(sign, List.of(a)))));
                terms.add(new Oracle.Tree(sign, List.of(new Oracle.Tree(sign, List.of(b)))));
            } else {
                terms.add(new Oracle.Tree(sign, List.of()));
            }
        }
        terms.add(a);
        terms.add(b);
        put(0, terms.get(number(terms.size())));
        put(1, terms.get(number(terms.size())));
        int name = name();
        if (go("law", name, 0, number(2), 1) && number(3) == 0) {
            put(2, number(2) == 0 ? a : tree(1));
            put(3, number(2) == 0 ? b : tree(1));
            go("condition", name, 2, 3);
        }
    }

    private void limitLaw() {
        put(2, tree(number(2)));
        put(3, tree(number(2)));
        go("condition", someLaw(), 2, 3);
        if (number(3) == 0) {
            go("condition", someLaw(), number(10), number(10));
        }
    }

    private void tellTwin() {
        for (int i = 0; i < 4; i++) {
            put(i, tree(number(3)));
        }
        if (number(3) == 0) {
            go("equivalence", name(), 0, 1, 0, 1);
        } else {
            go("equivalence", name(), number(4), number(4), number(4), number(4));
        }
    }

    private Map<Character, Oracle.Tree> instance(int depth) {
        Map<Character, Oracle.Tree> made = new HashMap<>();
        for (char letter = 'a'; letter <= 'd'; letter++) {
            made.put(letter, tree(number(depth + 1)));
        }
        return made;
    }

    private void goAcross() {
        List<Integer> twins = new ArrayList<>(oracle.world.twins.keySet());
        int twin = twins.isEmpty() ? name() : twins.get(number(twins.size()));
        boolean isForward = random.nextBoolean();
        int law = someLaw();
        if (!twins.isEmpty() && number(4) != 0) {
            Oracle.Tree[] trees = oracle.world.twins.get(twin).trees;
            Map<Character, Oracle.Tree> instance = instance(3);
            int one = isForward ? 0 : 2;
            put(0, trees[one].put(instance));
            put(1, trees[one + 1].put(instance));
            law = name();
            go("law", law, 0, number(2), 1);
        }
        go("across", name(), law, twin, isForward);
    }

    private void goByCases() {
        if (number(3) != 0) {
            int one = name();
            int other = name();
            int kind = number(2);
            put(0, tree(2));
            put(1, tree(1));
            put(2, tree(number(2)));
            put(3, tree(number(2)));
            go("law", one, 0, kind, 1);
            go("law", other, 0, number(2), 1);
            int x = number(4) == 0 ? 0 : 2;
            int y = number(4) == 0 ? x : number(2) == 0 ? 1 : 3;
            go("condition", one, x, y);
            go("condition", other, y, x);
            go("cases", name(), one, number(8) == 0 ? one : other);
        } else {
            int law = someLaw();
            go("cases", name(), law, number(3) == 0 ? law : someLaw());
        }
    }

    private void openOne() {
        List<Oracle.Tree[]> conditions = new ArrayList<>();
        for (Oracle.Known law : oracle.world.laws.values()) {
            if (law.first != null) {
                Map<Character, Oracle.Tree> instance = instance(1);
                conditions.add(new Oracle.Tree[] {law.first.put(instance), law.second.put(instance)});
            }
        }
        if (!conditions.isEmpty() && number(3) != 0) {
            Oracle.Tree[] pair = conditions.get(number(conditions.size()));
            put(2, pair[0]);
            put(3, pair[1]);
        } else {
            put(2, tree(number(2)));
            put(3, tree(number(3)));
        }
        go("assume", 2, 3);
    }

    // ---- chains

    private void beginChain() {
        Oracle.Tree tree = tree(1 + number(4));
        if (tree.size <= 40) {
            put(5, tree);
            go("begin", number(4), 5);
        }
    }

    /** A line that the last one of the chain may well go to. */
    private void goOn() {
        int chain = number(4);
        List<Oracle.Line> lines = oracle.world.chains.get(chain);
        if (lines.isEmpty()) {
            beginChain();
            return;
        }
        Oracle.Tree from = lines.get(lines.size() - 1).tree;
        int name = number(4) == 0 ? 100 + number(3) : someLaw();
        Oracle.Tree next = next(from, name);
        if (next == null || next.size > 40) {
            next = number(3) == 0 ? from : tree(2);
        }
        put(6, next);
        int told = number(12) == 0 ? someLaw() : name;
        go(number(3) == 0 ? "line" : "step", chain, told, 6);
    }

    private Oracle.Tree next(Oracle.Tree from, int name) {
        Oracle.Tree[] sides = null;
        Oracle.Known law = oracle.world.laws.get(name);
        if (law != null) {
            sides = new Oracle.Tree[] {law.left, law.right};
        } else if (name >= 100 && name - 100 < oracle.world.open.size()) {
            sides = oracle.world.open.get(name - 100);
        }
        List<List<Integer>> paths = from.paths();
        for (int tries = 0; tries < 30 && sides != null; tries++) {
            int one = number(2);
            List<Integer> path = paths.get(number(paths.size()));
            Map<Character, Oracle.Tree> bound = new HashMap<>();
            boolean isThere = law != null ? Oracle.fits(sides[one], from.at(path), bound)
                : sides[one].text.equals(from.at(path).text);
            if (isThere) {
                Map<Character, Oracle.Tree> instance = law == null ? new HashMap<>() : instance(1);
                instance.putAll(bound);
                return from.with(path, sides[1 - one].put(instance));
            }
        }
        return null;
    }

    private void search() {
        Oracle.Tree from = tree(1 + number(4));
        Oracle.Tree to = from;
        int relation = number(3);
        for (int i = number(5); i > 0; i--) {
            List<Oracle.Way> ways = oracle.ways(to, relation);
            if (!ways.isEmpty()) {
                to = ways.get(number(ways.size())).made;
            }
        }
        if (from.size <= 40) {
            put(5, from);
            put(6, number(10) == 0 ? tree(2) : to);
            go("find", number(4), 5, 6, relation, number(8) == 0 ? number(5) : 4);
        }
    }

    private void cutAndJoin() {
        int chain = number(4);
        int count = oracle.world.chains.get(chain).size();
        int at = number(Math.max(count, 1));
        int into = number(4);
        if (number(2) == 0) {
            go("cut", chain, at, count - 1, into);
            go("join", chain, into, number(4));
        } else {
            go("cut", chain, at, number(12), into);
            go("turn", number(4));
            go("join", number(4), number(4), number(4));
        }
    }

    // ---- a run

    private void setUp() {
        int signs = number(6) == 0 ? number(5) : 2 + number(2);
        for (int i = 0; i < signs; i++) {
            int places = number(8) == 0 ? 0 : i == 0 ? 2 : number(3);
            go("sign", places, number(5) == 0 ? 2 : number(2), number(5) == 0 ? 2 : number(2));
        }
        for (int i = number(3); i >= 0; i--) {
            tellTameLaw();
        }
    }

    private void play() {
        setUp();
        int moves = 30 + number(60);
        for (int i = 0; i < moves && isRight; i++) {
            move();
            if (number(12) == 0) {
                audit();
            }
        }
        audit();
    }

    private void move() {
        switch (number(30)) {
            case 0: wild(); wild(); wild(); break;
            case 1: tellLaw(); break;
            case 2: case 3: tellTameLaw(); break;
            case 4: limitLaw(); break;
            case 5: tellTwin(); break;
            case 6: goAcross(); break;
            case 7: goByCases(); break;
            case 8: case 9: openOne(); break;
            case 10: beginChain(); break;
            case 11: case 12: case 13: case 14: case 15: case 16: case 17: goOn(); goOn(); break;
            case 18: case 19: go("lemma", name(), number(4)); break;
            case 20: go("end", name(), number(4)); break;
            case 21: case 22: search(); break;
            case 23: cutAndJoin(); break;
            case 24: go("image", number(2)); break;
            case 25: go("restore", number(2)); break;
            case 26:
                for (int i = number(10); i >= 0; i--) {
                    go("undo");
                }
                break;
            case 27: go("term", number(10), number(4), number(10), number(10)); go("variable", number(10), number(4)); break;
            case 28: go("part", number(10), number(6), number(10)); go("take", number(4), number(4), number(10)); break;
            default: go(number(4) == 0 ? "giveUp" : "orders"); small(); break;
        }
    }

    private void small() {
        put(0, tree(number(3)));
        put(1, tree(number(3)));
        for (int i = 0; i < 5; i++) {
            go("fails", number(i < 3 ? 2 : 10), number(2), number(2), number(3) == 0 ? number(65536) : number(300));
        }
        for (int i = 0; i < 3; i++) {
            go("value", number(65536), number(10), number(16));
        }
    }

    private void written(String name, int of) {
        if (go(name, of)) {
            int end = number(40);
            for (int i = -1; i < end && go("outputAt", i) | i < 0; i++) {
                isRight = isRight && i < 400;
            }
        }
    }

    private void audit() {
        for (String name : new String[] {"signs", "laws", "open", "checksum", "meanLines", "provedShare", "orders", "errors"}) {
            go(name);
        }
        for (int i = 0; i < 10; i++) {
            go("areSame", i, number(10));
            go("direction", i, number(6));
            go("termAt", i, number(4));
        }
        written("write", number(10));
        for (int name : new ArrayList<>(oracle.world.laws.keySet())) {
            go("lawAt", name, 5);
            go("lawAt", name, number(5));
            go("rests", name, someLaw());
        }
        written("writeLaw", someLaw());
        for (int i = 0; i < 4; i++) {
            go("lines", i);
            go("wrong", i);
            go("relation", i);
            go("needs", i);
            for (int line = 1; line < oracle.world.chains.get(i).size(); line++) {
                for (int what = 0; what < 5; what++) {
                    go("stepAt", i, line, what);
                }
            }
        }
    }
}
