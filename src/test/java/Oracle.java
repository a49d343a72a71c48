import java.util.ArrayDeque;
import java.util.ArrayList;
import java.util.Arrays;
import java.util.Deque;
import java.util.HashMap;
import java.util.HashSet;
import java.util.LinkedHashMap;
import java.util.List;
import java.util.Map;
import java.util.NoSuchElementException;
import java.util.Set;
import java.util.TreeMap;
import java.util.TreeSet;

/**
 * The document once more, in its plainest form, with trees, maps and recursion and without care for
 * time or room: RandomRuns holds the class against it.
 */
public final class Oracle {
    static final int NONE = -1, RISES = 0, FALLS = 1, MIXED = 2, EQUAL = 0, LESS = 1, MORE = 2;

    /** A tree; its text tells it from others. */
    static final class Tree {
        final char letter;
        final List<Tree> parts;
        final String text;
        final int size;

        Tree(char letter, List<Tree> parts) {
            this.letter = letter;
            this.parts = parts;
            StringBuilder made = new StringBuilder().append(letter);
            int nodes = 1;
            for (int i = 0; i < parts.size(); i++) {
                made.append(i == 0 ? "(" : ",").append(parts.get(i).text);
                nodes += parts.get(i).size;
            }
            this.text = made.append(parts.isEmpty() ? "" : ")").toString();
            this.size = nodes;
        }

        boolean isVariable() {
            return letter <= 'd';
        }

        int depth() {
            int deepest = 0;
            for (Tree part : parts) {
                deepest = Math.max(deepest, part.depth());
            }
            return deepest + 1;
        }

        void variables(Set<Character> into) {
            if (isVariable()) {
                into.add(letter);
            }
            for (Tree part : parts) {
                part.variables(into);
            }
        }

        Set<Character> variables() {
            Set<Character> found = new TreeSet<>();
            variables(found);
            return found;
        }

        /** The paths of all places, in order. */
        void paths(List<Integer> ahead, List<List<Integer>> into) {
            into.add(ahead);
            for (int i = 0; i < parts.size(); i++) {
                List<Integer> path = new ArrayList<>(ahead);
                path.add(i);
                parts.get(i).paths(path, into);
            }
        }

        List<List<Integer>> paths() {
            List<List<Integer>> found = new ArrayList<>();
            paths(new ArrayList<>(), found);
            return found;
        }

        /** Null if there is no such place. */
        Tree at(List<Integer> path) {
            Tree tree = this;
            for (int i : path) {
                if (i >= tree.parts.size()) {
                    return null;
                }
                tree = tree.parts.get(i);
            }
            return tree;
        }

        Tree with(List<Integer> path, Tree part) {
            if (path.isEmpty()) {
                return part;
            }
            List<Tree> changed = new ArrayList<>(parts);
            changed.set(path.get(0), parts.get(path.get(0)).with(path.subList(1, path.size()), part));
            return new Tree(letter, changed);
        }

        Tree put(Map<Character, Tree> instance) {
            if (isVariable()) {
                return instance.getOrDefault(letter, this);
            }
            List<Tree> made = new ArrayList<>();
            for (Tree part : parts) {
                made.add(part.put(instance));
            }
            return new Tree(letter, made);
        }
    }

    static boolean fits(Tree pattern, Tree tree, Map<Character, Tree> instance) {
        if (pattern.isVariable()) {
            Tree bound = instance.putIfAbsent(pattern.letter, tree);
            return bound == null || bound.text.equals(tree.text);
        }
        if (pattern.letter != tree.letter) {
            return false;
        }
        for (int i = 0; i < pattern.parts.size(); i++) {
            if (!fits(pattern.parts.get(i), tree.parts.get(i), instance)) {
                return false;
            }
        }
        return true;
    }

    static final class Known {
        final int name;
        final Tree left;
        final int relation;
        final Tree right;
        boolean isProved;
        Tree first;
        Tree second;
        final Set<Integer> rests = new TreeSet<>();

        Known(int name, Tree left, int relation, Tree right) {
            this.name = name;
            this.left = left;
            this.relation = relation;
            this.right = right;
        }
    }

    static final class Twin {
        final Tree[] trees;

        Twin(Tree... trees) {
            this.trees = trees;
        }
    }

    static final class Line {
        final Tree tree;
        final int name;

        Line(Tree tree, int name) {
            this.tree = tree;
            this.name = name;
        }
    }

    static final class Way {
        boolean isForward;
        int place;
        int relation;
        /** The law that granted the condition, or NONE. */
        int granter = NONE;
        Tree made;
        int name;
    }

    static final class World {
        List<int[]> signs = new ArrayList<>();
        Tree[] registers = new Tree[10];
        TreeMap<Integer, Known> laws = new TreeMap<>();
        TreeMap<Integer, Twin> twins = new TreeMap<>();
        List<Tree[]> open = new ArrayList<>();
        List<List<Line>> chains = new ArrayList<>();

        World() {
            for (int i = 0; i < 4; i++) {
                chains.add(new ArrayList<>());
            }
        }

        World copy() {
            World made = new World();
            made.signs = new ArrayList<>(signs);
            made.registers = registers.clone();
            made.laws = new TreeMap<>(laws);
            made.twins = new TreeMap<>(twins);
            made.open = new ArrayList<>(open);
            made.chains = new ArrayList<>(chains);
            return made;
        }
    }

    World world = new World();
    private final Deque<World> past = new ArrayDeque<>();
    private final World[] images = new World[2];
    private String text = "";
    private String output = "";
    private List<Integer> known = null;
    private String knownFor = "";

    // ---- what the calls share

    private static void argument(boolean isFine) {
        if (!isFine) {
            throw new IllegalArgumentException();
        }
    }

    private static void index(boolean isFine) {
        if (!isFine) {
            throw new IndexOutOfBoundsException();
        }
    }

    private static void state(boolean isFine) {
        if (!isFine) {
            throw new IllegalStateException();
        }
    }

    private static void element(boolean isFine) {
        if (!isFine) {
            throw new NoSuchElementException();
        }
    }

    private static void register(int... numbers) {
        for (int number : numbers) {
            index(number >= 0 && number <= 9);
        }
    }

    private static void chain(int... numbers) {
        for (int number : numbers) {
            index(number >= 0 && number <= 3);
        }
    }

    private void filled(int... numbers) {
        for (int number : numbers) {
            state(world.registers[number] != null);
        }
    }

    private void free(int name) {
        state(!world.laws.containsKey(name) && !world.twins.containsKey(name) && world.laws.size() < 20);
    }

    private void change() {
        past.addLast(world.copy());
        if (past.size() > 8) {
            past.removeFirst();
        }
    }

    private int places(char letter) {
        return letter <= 'd' ? 0 : world.signs.get(letter - 'p')[0];
    }

    int directionOf(Tree tree, List<Integer> path) {
        int direction = RISES;
        Tree around = tree;
        for (int i : path) {
            int own = world.signs.get(around.letter - 'p')[1 + i];
            if (direction == MIXED || own == MIXED) {
                direction = MIXED;
            } else if (direction == FALLS) {
                direction = own == FALLS ? RISES : FALLS;
            } else {
                direction = own;
            }
            around = around.parts.get(i);
        }
        return direction;
    }

    // ---- Changes: signs, terms

    public int sign(int places, int first, int second) {
        argument(places >= 0 && places <= 2);
        argument(places < 1 || first >= 0 && first <= 2);
        argument(places < 2 || second >= 0 && second <= 2);
        state(world.signs.size() < 4);
        change();
        world.signs.add(new int[] {places, first, second});
        return world.signs.size() - 1;
    }

    public int variable(int register, int variable) {
        register(register);
        argument(variable >= 0 && variable <= 3);
        change();
        world.registers[register] = new Tree((char) ('a' + variable), List.of());
        int count = 0;
        for (Tree tree : world.registers) {
            count += tree == null ? 0 : 1;
        }
        return count;
    }

    public int term(int register, int sign, int first, int second) {
        register(register);
        index(sign >= 0 && sign < world.signs.size());
        int places = world.signs.get(sign)[0];
        int[] needed = places == 0 ? new int[] {} : places == 1 ? new int[] {first} : new int[] {first, second};
        register(needed);
        filled(needed);
        List<Tree> parts = new ArrayList<>();
        for (int number : needed) {
            parts.add(world.registers[number]);
        }
        Tree made = new Tree((char) ('p' + sign), parts);
        state(made.size <= 40);
        change();
        world.registers[register] = made;
        return made.size;
    }

    public int read(int register) {
        register(register);
        argument(errorPlace() == NONE);
        change();
        world.registers[register] = parse(text.replace(" ", ""), new int[1]);
        return world.registers[register].size;
    }

    private Tree parse(String from, int[] at) {
        char letter = from.charAt(at[0]++);
        List<Tree> parts = new ArrayList<>();
        for (int i = 0; i < places(letter); i++) {
            at[0]++;
            parts.add(parse(from, at));
        }
        at[0] += parts.isEmpty() ? 0 : 1;
        return new Tree(letter, parts);
    }

    public int part(int register, int place, int into) {
        register(register, into);
        filled(register);
        Tree whole = world.registers[register];
        index(place >= 0 && place < whole.size);
        change();
        world.registers[into] = whole.at(whole.paths().get(place));
        return world.registers[into].size;
    }

    // ---- Changes: laws

    public int law(int name, int left, int relation, int right) {
        argument(name >= 0 && name <= 99 && (relation == EQUAL || relation == LESS));
        register(left, right);
        filled(left, right);
        free(name);
        change();
        world.laws.put(name, new Known(name, world.registers[left], relation, world.registers[right]));
        return world.laws.size();
    }

    public boolean condition(int name, int first, int second) {
        element(world.laws.containsKey(name));
        register(first, second);
        filled(first, second);
        Known old = world.laws.get(name);
        state(!old.isProved);
        for (Known other : world.laws.values()) {
            state(!other.rests.contains(name));
        }
        Set<Character> inside = old.left.variables();
        inside.addAll(old.right.variables());
        argument(inside.containsAll(world.registers[first].variables()));
        argument(inside.containsAll(world.registers[second].variables()));
        change();
        Known changed = new Known(name, old.left, old.relation, old.right);
        changed.first = world.registers[first];
        changed.second = world.registers[second];
        world.laws.put(name, changed);
        return old.first != null;
    }

    public int equivalence(int name, int first, int second, int third, int fourth) {
        argument(name >= 0 && name <= 99);
        register(first, second, third, fourth);
        filled(first, second, third, fourth);
        state(!world.laws.containsKey(name) && !world.twins.containsKey(name) && world.twins.size() < 4);
        change();
        Tree[] now = world.registers;
        world.twins.put(name, new Twin(now[first], now[second], now[third], now[fourth]));
        return world.twins.size();
    }

    public int assume(int first, int second) {
        register(first, second);
        filled(first, second);
        state(world.open.size() < 3);
        change();
        world.open.add(new Tree[] {world.registers[first], world.registers[second]});
        return 99 + world.open.size();
    }

    public int giveUp() {
        element(!world.open.isEmpty());
        change();
        world.open.remove(world.open.size() - 1);
        return world.open.size();
    }

    public int end(int name, int chain) {
        argument(name >= 0 && name <= 99);
        chain(chain);
        element(!world.open.isEmpty());
        int latest = world.open.size() - 1;
        Known made = proved(name, chain, Set.of(latest));
        free(name);
        made.first = world.open.get(latest)[0];
        made.second = world.open.get(latest)[1];
        Set<Character> inside = made.left.variables();
        inside.addAll(made.right.variables());
        state(inside.containsAll(made.first.variables()) && inside.containsAll(made.second.variables()));
        change();
        world.open.remove(latest);
        world.laws.put(name, made);
        return made.relation;
    }

    public int lemma(int name, int chain) {
        argument(name >= 0 && name <= 99);
        chain(chain);
        Known made = proved(name, chain, Set.of());
        free(name);
        change();
        world.laws.put(name, made);
        return made.relation;
    }

    private Known proved(int name, int chain, Set<Integer> counting) {
        List<Line> lines = world.chains.get(chain);
        state(!lines.isEmpty() && wrongLine(lines, counting) == NONE);
        int relation = relationOf(lines, counting);
        state(relation != NONE);
        Tree first = lines.get(0).tree;
        Tree last = lines.get(lines.size() - 1).tree;
        Known made = relation == MORE ? new Known(name, last, LESS, first) : new Known(name, first, relation, last);
        made.isProved = true;
        for (int i = 1; i < lines.size(); i++) {
            Way way = way(lines.get(i).name, lines.get(i - 1).tree, lines.get(i).tree, counting);
            for (int used : new int[] {lines.get(i).name, way.granter}) {
                if (world.laws.containsKey(used)) {
                    made.rests.add(used);
                    made.rests.addAll(world.laws.get(used).rests);
                }
            }
        }
        return made;
    }

    public int cases(int name, int first, int second) {
        argument(name >= 0 && name <= 99);
        Known one = world.laws.get(first);
        Known two = world.laws.get(second);
        if (one != null && two != null) {
            argument(one.first != null && two.first != null);
            argument(one.left.text.equals(two.left.text) && one.right.text.equals(two.right.text));
            argument(one.first.text.equals(two.second.text) && one.second.text.equals(two.first.text));
        }
        element(one != null && two != null);
        free(name);
        change();
        int relation = one.relation == EQUAL && two.relation == EQUAL ? EQUAL : LESS;
        Known made = new Known(name, one.left, relation, one.right);
        made.isProved = true;
        made.rests.add(first);
        made.rests.add(second);
        made.rests.addAll(one.rests);
        made.rests.addAll(two.rests);
        world.laws.put(name, made);
        return relation;
    }

    public int across(int name, int law, int equivalence, boolean isForward) {
        argument(name >= 0 && name <= 99);
        Known used = world.laws.get(law);
        Twin twin = world.twins.get(equivalence);
        Map<Character, Tree> instance = new HashMap<>();
        int one = isForward ? 0 : 2;
        if (used != null && twin != null) {
            argument(used.first == null);
            argument(fits(twin.trees[one], used.left, instance) && fits(twin.trees[one + 1], used.right, instance));
            Set<Character> inside = instance.keySet();
            argument(inside.containsAll(twin.trees[2 - one].variables()));
            argument(inside.containsAll(twin.trees[3 - one].variables()));
        }
        element(used != null && twin != null);
        free(name);
        Tree left = twin.trees[2 - one].put(instance);
        Tree right = twin.trees[3 - one].put(instance);
        state(left.size <= 40 && right.size <= 40);
        change();
        Known made = new Known(name, left, LESS, right);
        made.isProved = true;
        made.rests.add(law);
        made.rests.addAll(used.rests);
        world.laws.put(name, made);
        return world.laws.size();
    }

    // ---- steps and chains

    /** The first way in which a step is done; null if it is not right. */
    Way way(int name, Tree from, Tree to, Set<Integer> counting) {
        Tree left;
        Tree right;
        int relation = LESS;
        boolean isFixed = name >= 100;
        Known law = world.laws.get(name);
        if (isFixed) {
            if (name - 100 >= world.open.size() || !counting.contains(name - 100)) {
                return null;
            }
            left = world.open.get(name - 100)[0];
            right = world.open.get(name - 100)[1];
        } else {
            if (law == null) {
                return null;
            }
            left = law.left;
            right = law.right;
            relation = law.relation;
        }
        List<List<Integer>> paths = from.paths();
        for (boolean isForward : new boolean[] {true, false}) {
            for (int place = 0; place < paths.size(); place++) {
                List<Integer> path = paths.get(place);
                Tree here = from.at(path);
                Tree there = to.at(path);
                if (there == null || !from.with(path, there).text.equals(to.text)) {
                    continue;
                }
                Map<Character, Tree> instance = new HashMap<>();
                Tree source = isForward ? left : right;
                Tree result = isForward ? right : left;
                if (isFixed ? !source.text.equals(here.text) || !result.text.equals(there.text)
                        : !fits(source, here, instance) || !fits(result, there, instance)) {
                    continue;
                }
                Way way = new Way();
                way.relation = relationAt(relation, directionOf(from, path), isForward);
                way.isForward = isForward;
                way.place = place;
                if (way.relation != NONE && (isFixed || isGranted(law, instance, counting, way))) {
                    return way;
                }
            }
        }
        return null;
    }

    private static int relationAt(int relation, int direction, boolean isForward) {
        if (relation == EQUAL) {
            return EQUAL;
        }
        if (direction == MIXED) {
            return NONE;
        }
        if (isForward) {
            return direction == RISES ? LESS : MORE;
        }
        return direction == FALLS ? LESS : MORE;
    }

    private boolean isGranted(Known law, Map<Character, Tree> instance, Set<Integer> counting, Way way) {
        if (law.first == null) {
            return true;
        }
        Tree x = law.first.put(instance);
        Tree y = law.second.put(instance);
        if (x.text.equals(y.text)) {
            return true;
        }
        for (int i : counting) {
            if (world.open.get(i)[0].text.equals(x.text) && world.open.get(i)[1].text.equals(y.text)) {
                return true;
            }
        }
        for (Known other : world.laws.values()) {
            if (other.first == null) {
                Map<Character, Tree> one = new HashMap<>();
                Map<Character, Tree> two = new HashMap<>();
                if (fits(other.left, x, one) && fits(other.right, y, one)
                        || other.relation == EQUAL && fits(other.right, x, two) && fits(other.left, y, two)) {
                    way.granter = other.name;
                    return true;
                }
            }
        }
        return false;
    }

    Set<Integer> all() {
        Set<Integer> made = new HashSet<>();
        for (int i = 0; i < world.open.size(); i++) {
            made.add(i);
        }
        return made;
    }

    private int wrongLine(List<Line> lines, Set<Integer> counting) {
        for (int i = 1; i < lines.size(); i++) {
            if (way(lines.get(i).name, lines.get(i - 1).tree, lines.get(i).tree, counting) == null) {
                return i;
            }
        }
        return NONE;
    }

    private int relationOf(List<Line> lines, Set<Integer> counting) {
        if (lines.isEmpty() || wrongLine(lines, counting) != NONE) {
            return NONE;
        }
        Set<Integer> relations = new HashSet<>();
        for (int i = 1; i < lines.size(); i++) {
            relations.add(way(lines.get(i).name, lines.get(i - 1).tree, lines.get(i).tree, counting).relation);
        }
        boolean isLess = relations.contains(LESS);
        boolean isMore = relations.contains(MORE);
        return isLess && isMore ? NONE : isLess ? LESS : isMore ? MORE : EQUAL;
    }

    // ---- Changes: chains

    public int begin(int chain, int register) {
        chain(chain);
        register(register);
        filled(register);
        change();
        int before = world.chains.get(chain).size();
        world.chains.set(chain, List.of(new Line(world.registers[register], NONE)));
        return before;
    }

    private int longer(int chain, int name, int register) {
        change();
        List<Line> lines = new ArrayList<>(world.chains.get(chain));
        lines.add(new Line(world.registers[register], name));
        world.chains.set(chain, lines);
        return lines.size();
    }

    public int line(int chain, int name, int register) {
        chain(chain);
        register(register);
        argument(name >= 0 && name <= 102);
        filled(register);
        state(!world.chains.get(chain).isEmpty() && world.chains.get(chain).size() < 12);
        return longer(chain, name, register);
    }

    public int step(int chain, int name, int register) {
        chain(chain);
        register(register);
        element(world.laws.containsKey(name) || name >= 100 && name - 100 < world.open.size());
        filled(register);
        List<Line> lines = world.chains.get(chain);
        state(!lines.isEmpty() && lines.size() < 12);
        Way way = way(name, lines.get(lines.size() - 1).tree, world.registers[register], all());
        argument(way != null);
        longer(chain, name, register);
        return way.relation;
    }

    public int turn(int chain) {
        chain(chain);
        change();
        List<Line> old = world.chains.get(chain);
        List<Line> lines = new ArrayList<>();
        for (int i = old.size() - 1; i >= 0; i--) {
            lines.add(new Line(old.get(i).tree, i == old.size() - 1 ? NONE : old.get(i + 1).name));
        }
        world.chains.set(chain, lines);
        return lines.size();
    }

    public int join(int first, int second, int into) {
        chain(first, second, into);
        List<Line> one = world.chains.get(first);
        List<Line> two = world.chains.get(second);
        state(!one.isEmpty() && !two.isEmpty() && one.size() + two.size() - 1 <= 12);
        argument(one.get(one.size() - 1).tree.text.equals(two.get(0).tree.text));
        change();
        List<Line> lines = new ArrayList<>(one);
        lines.addAll(two.subList(1, two.size()));
        world.chains.set(into, lines);
        return lines.size();
    }

    public int cut(int chain, int from, int to, int into) {
        chain(chain);
        List<Line> old = world.chains.get(chain);
        index(from >= 0 && from < old.size() && to >= 0 && to < old.size());
        chain(into);
        argument(to >= from);
        change();
        List<Line> lines = new ArrayList<>(old.subList(from, to + 1));
        lines.set(0, new Line(lines.get(0).tree, NONE));
        world.chains.set(into, lines);
        return lines.size();
    }

    public int take(int chain, int line, int register) {
        chain(chain);
        index(line >= 0 && line < world.chains.get(chain).size());
        register(register);
        change();
        world.registers[register] = world.chains.get(chain).get(line).tree;
        return world.registers[register].size;
    }

    /** All that a term goes to in one way, in order. */
    List<Way> ways(Tree from, int relation) {
        List<Way> found = new ArrayList<>();
        List<List<Integer>> paths = from.paths();
        for (Known law : world.laws.values()) {
            for (boolean isForward : new boolean[] {true, false}) {
                Tree source = isForward ? law.left : law.right;
                Tree result = isForward ? law.right : law.left;
                if (law.first != null || !source.variables().containsAll(result.variables())) {
                    continue;
                }
                for (int place = 0; place < paths.size(); place++) {
                    Way way = new Way();
                    way.relation = relationAt(law.relation, directionOf(from, paths.get(place)), isForward);
                    Map<Character, Tree> instance = new HashMap<>();
                    if (way.relation != NONE && (way.relation == EQUAL || way.relation == relation)
                            && fits(source, from.at(paths.get(place)), instance)) {
                        way.made = from.with(paths.get(place), result.put(instance));
                        way.name = law.name;
                        if (way.made.size <= 25) {
                            found.add(way);
                        }
                    }
                }
            }
        }
        return found;
    }

    public int find(int chain, int from, int to, int relation, int most) {
        chain(chain);
        register(from, to);
        argument(relation >= 0 && relation <= 2 && most >= 0 && most <= 4);
        filled(from, to);
        Tree start = world.registers[from];
        Tree goal = world.registers[to];
        Map<String, List<Line>> found = new LinkedHashMap<>();
        found.put(start.text, List.of(new Line(start, NONE)));
        List<List<Line>> level = List.of(found.get(start.text));
        for (int steps = 0; steps < most && !found.containsKey(goal.text); steps++) {
            List<List<Line>> next = new ArrayList<>();
            for (int i = 0; i < level.size() && !found.containsKey(goal.text); i++) {
                List<Line> path = level.get(i);
                for (Way way : ways(path.get(path.size() - 1).tree, relation)) {
                    if (!found.containsKey(way.made.text)) {
                        state(found.size() < 1000 || way.made.text.equals(goal.text));
                        List<Line> longer = new ArrayList<>(path);
                        longer.add(new Line(way.made, way.name));
                        found.put(way.made.text, longer);
                        next.add(longer);
                    }
                    if (found.containsKey(goal.text)) {
                        break;
                    }
                }
            }
            level = next;
        }
        element(found.containsKey(goal.text));
        List<Line> told = found.get(goal.text);
        if (found.size() < 60) {
            holdAgainstDefinition(told, start, goal, relation);
        }
        change();
        world.chains.set(chain, told);
        return told.size() - 1;
    }

    /** The told chain by the words of section 7: the first of the shortest rows of ways. */
    private void holdAgainstDefinition(List<Line> told, Tree start, Tree goal, int relation) {
        for (int steps = 0; steps < told.size(); steps++) {
            List<Line> row = new ArrayList<>();
            if (firstRow(start, goal, relation, steps, row)) {
                if (steps != told.size() - 1) {
                    throw new IllegalStateException("oracle: a shorter chain");
                }
                for (int i = 0; i < row.size(); i++) {
                    Line due = told.get(told.size() - 1 - i);
                    if (due.name != row.get(i).name || !due.tree.text.equals(row.get(i).tree.text)) {
                        throw new IllegalStateException("oracle: a chain that comes first");
                    }
                }
                return;
            }
        }
        throw new IllegalStateException("oracle: no chain");
    }

    private boolean firstRow(Tree from, Tree goal, int relation, int steps, List<Line> row) {
        if (steps == 0) {
            return from.text.equals(goal.text);
        }
        for (Way way : ways(from, relation)) {
            if (firstRow(way.made, goal, relation, steps - 1, row)) {
                row.add(new Line(way.made, way.name));
                return true;
            }
        }
        return false;
    }

    // ---- Changes: images

    public int restore(int image) {
        index(image == 0 || image == 1);
        state(images[image] != null);
        change();
        world = images[image].copy();
        return world.laws.size();
    }

    public int undo() {
        state(!past.isEmpty());
        world = past.removeLast();
        return past.size();
    }

    // ---- images, texts

    public boolean image(int image) {
        index(image == 0 || image == 1);
        boolean was = images[image] != null;
        images[image] = world.copy();
        return was;
    }

    public int type(long bytes) {
        String added = "";
        for (int i = 7; i >= 0; i--) {
            char next = (char) (bytes >>> 8 * i & 255);
            added += next == 0 ? "" : String.valueOf(next);
        }
        state((text + added).length() <= 200);
        text += added;
        return text.length();
    }

    public int clearText() {
        int before = text.length();
        text = "";
        return before;
    }

    /** Recursive: returns the index behind a term that begins at a place; throws where a byte does not fit. */
    private int behindTerm(int from, int[] letters) {
        int at = behindBlanks(from);
        fit(at < text.length(), at);
        char letter = text.charAt(at);
        boolean isFine = letter >= 'a' && letter <= 'd' || letter >= 'p' && letter < 'p' + world.signs.size();
        fit(isFine && letters[0] < 40, at);
        letters[0]++;
        at++;
        for (int i = 0; i < places(letter); i++) {
            at = behindBlanks(at);
            fit(at < text.length() && text.charAt(at) == (i == 0 ? '(' : ','), at);
            at = behindTerm(at + 1, letters);
        }
        if (places(letter) > 0) {
            at = behindBlanks(at);
            fit(at < text.length() && text.charAt(at) == ')', at);
            at++;
        }
        return at;
    }

    private int behindBlanks(int from) {
        int at = from;
        while (at < text.length() && text.charAt(at) == ' ') {
            at++;
        }
        return at;
    }

    private static void fit(boolean isFine, int at) {
        if (!isFine) {
            throw new ArithmeticException(String.valueOf(at));
        }
    }

    public int errorPlace() {
        try {
            int at = behindBlanks(behindTerm(0, new int[1]));
            return at == text.length() ? NONE : at;
        } catch (ArithmeticException e) {
            return Integer.parseInt(e.getMessage());
        }
    }

    public int write(int register) {
        register(register);
        filled(register);
        output = world.registers[register].text;
        return output.length();
    }

    public int writeLaw(int name) {
        element(world.laws.containsKey(name));
        Known law = world.laws.get(name);
        output = law.left.text + (law.relation == EQUAL ? "=" : "<") + law.right.text;
        output += law.first == null ? "" : ";" + law.first.text + "<" + law.second.text;
        return output.length();
    }

    public int outputAt(int index) {
        element(index >= 0 && index < output.length());
        return output.charAt(index);
    }

    // ---- terms, laws

    public int signs() {
        return world.signs.size();
    }

    public int termAt(int register, int what) {
        register(register);
        argument(what >= 0 && what <= 3);
        Tree tree = world.registers[register];
        if (tree == null) {
            return NONE;
        }
        int bits = 0;
        for (char letter : tree.variables()) {
            bits += 1 << (letter - 'a');
        }
        return new int[] {tree.size, tree.depth(), bits, tree.isVariable() ? NONE : tree.letter - 'p'}[what];
    }

    public boolean areSame(int register, int other) {
        register(register, other);
        Tree one = world.registers[register];
        Tree two = world.registers[other];
        return one != null && two != null && one.text.equals(two.text);
    }

    public int direction(int register, int place) {
        register(register);
        filled(register);
        Tree tree = world.registers[register];
        index(place >= 0 && place < tree.size);
        return directionOf(tree, tree.paths().get(place));
    }

    public int laws() {
        return world.laws.size();
    }

    public int lawAt(int name, int what) {
        element(world.laws.containsKey(name));
        argument(what >= 0 && what <= 5);
        Known law = world.laws.get(name);
        Integer next = world.laws.higherKey(name);
        int least = law.rests.isEmpty() ? NONE : law.rests.iterator().next();
        return new int[] {law.relation, law.isProved ? 1 : 0, law.first == null ? 0 : 1, law.rests.size(), least,
            next == null ? NONE : next}[what];
    }

    public boolean rests(int name, int other) {
        element(world.laws.containsKey(name) && world.laws.containsKey(other));
        return world.laws.get(name).rests.contains(other);
    }

    public int open() {
        return world.open.size();
    }

    // ---- chains

    public int lines(int chain) {
        chain(chain);
        return world.chains.get(chain).size();
    }

    public int wrong(int chain) {
        chain(chain);
        return wrongLine(world.chains.get(chain), all());
    }

    public int relation(int chain) {
        chain(chain);
        return relationOf(world.chains.get(chain), all());
    }

    public int stepAt(int chain, int line, int what) {
        chain(chain);
        List<Line> lines = world.chains.get(chain);
        index(line >= 1 && line < lines.size());
        argument(what >= 0 && what <= 4);
        Tree from = lines.get(line - 1).tree;
        Tree to = lines.get(line).tree;
        int name = lines.get(line).name;
        if (what == 4) {
            for (int least = 0; least <= 102; least++) {
                if (way(least, from, to, all()) != null) {
                    return least;
                }
            }
            return NONE;
        }
        Way way = way(name, from, to, all());
        return what == 0 ? name : way == null ? NONE
            : new int[] {name, way.relation, way.isForward ? 1 : 0, way.place}[what];
    }

    public int needs(int chain) {
        chain(chain);
        Set<Integer> names = new HashSet<>();
        for (Line line : world.chains.get(chain)) {
            names.add(line.name);
        }
        names.remove(NONE);
        return names.size();
    }

    // ---- small orders

    /** The value of a term, one row of values at a time. */
    int valueOf(Tree tree, int order, int values) {
        if (tree.isVariable()) {
            return values >> (tree.letter - 'a') & 1;
        }
        int k = 0;
        for (int i = 0; i < tree.parts.size(); i++) {
            k += valueOf(tree.parts.get(i), order, values) << i;
        }
        int way = order >> 4 * (tree.letter - 'p') & 15;
        return way >> k & 1;
    }

    private boolean isLine(Tree left, int relation, Tree right, int order, int values) {
        int x = valueOf(left, order, values);
        int y = valueOf(right, order, values);
        return relation == EQUAL ? x == y : x <= y;
    }

    private boolean holds(Tree left, int relation, Tree right, Tree first, Tree second, int order) {
        for (int values = 0; values < 16; values++) {
            boolean counts = first == null || isLine(first, LESS, second, order, values);
            if (counts && !isLine(left, relation, right, order, values)) {
                return false;
            }
        }
        return true;
    }

    /** Whether the order keeps to the places and directions of the signs. */
    private boolean isOrder(int order) {
        for (int i = 0; i < 4; i++) {
            int way = order >> 4 * i & 15;
            int places = i < world.signs.size() ? world.signs.get(i)[0] : NONE;
            int ways = places == NONE ? 1 : places == 0 ? 2 : places == 1 ? 4 : 16;
            if (way >= ways) {
                return false;
            }
            for (int place = 0; place < places; place++) {
                int direction = world.signs.get(i)[1 + place];
                for (int k = 0; k < 1 << places; k++) {
                    int low = way >> k & 1;
                    int high = way >> (k | 1 << place) & 1;
                    if (direction == RISES && low > high || direction == FALLS && low < high) {
                        return false;
                    }
                }
            }
        }
        return true;
    }

    private boolean obeys(int order) {
        for (Known law : world.laws.values()) {
            if (!law.isProved && !holds(law.left, law.relation, law.right, law.first, law.second, order)) {
                return false;
            }
        }
        for (Twin twin : world.twins.values()) {
            for (int values = 0; values < 16; values++) {
                if (isLine(twin.trees[0], LESS, twin.trees[1], order, values)
                        != isLine(twin.trees[2], LESS, twin.trees[3], order, values)) {
                    return false;
                }
            }
        }
        return true;
    }

    private List<Integer> obeying() {
        StringBuilder now = new StringBuilder();
        for (int[] sign : world.signs) {
            now.append(Arrays.toString(sign));
        }
        for (Known law : world.laws.values()) {
            if (!law.isProved) {
                now.append(law.left.text).append(law.relation).append(law.right.text).append(';');
                now.append(law.first == null ? "" : law.first.text + "<" + law.second.text).append(';');
            }
        }
        for (Twin twin : world.twins.values()) {
            for (Tree tree : twin.trees) {
                now.append(tree.text).append('~');
            }
        }
        if (known == null || !now.toString().equals(knownFor)) {
            knownFor = now.toString();
            known = new ArrayList<>();
            for (int order = 0; order < 65536; order++) {
                if (isOrder(order) && obeys(order)) {
                    known.add(order);
                }
            }
        }
        return known;
    }

    public int orders() {
        return obeying().size();
    }

    public int fails(int left, int relation, int right, int from) {
        register(left, right);
        filled(left, right);
        argument((relation == EQUAL || relation == LESS) && from >= 0 && from <= 65535);
        for (int order : obeying()) {
            if (order >= from && !holds(world.registers[left], relation, world.registers[right], null, null, order)) {
                return order;
            }
        }
        return NONE;
    }

    public int value(int order, int register, int values) {
        register(register);
        filled(register);
        argument(order >= 0 && order <= 65535 && values >= 0 && values <= 15);
        return valueOf(world.registers[register], order, values);
    }

    // ---- measures

    public double meanLines() {
        int sum = 0;
        int some = 0;
        for (List<Line> lines : world.chains) {
            sum += lines.size();
            some += lines.isEmpty() ? 0 : 1;
        }
        return some == 0 ? 0.0 : (double) sum / (double) some;
    }

    public float provedShare() {
        int proved = 0;
        for (Known law : world.laws.values()) {
            proved += law.isProved ? 1 : 0;
        }
        return world.laws.isEmpty() ? 0.0f : (float) proved / (float) world.laws.size();
    }

    public long checksum() {
        long sum = 7;
        for (Known law : world.laws.values()) {
            sum = sum * 31 + law.name + 100 * law.left.size + 10000 * law.right.size;
        }
        return sum;
    }

    public int errors() {
        return 0;
    }
}
