import java.util.NoSuchElementException;

/**
 * Chains of lines: terms with signs whose places rise or fall, laws, steps by laws at a place,
 * chains that are checked step by step, a book of proved laws, search, small orders, texts, images
 * and undo. The document ../shared/DOC.md says what each call does.
 */
public final class Chainwork {
    public static final int NONE = -1;
    public static final int RISES = 0, FALLS = 1, MIXED = 2;
    public static final int EQUAL = 0, LESS = 1, MORE = 2;

    private static final int SIGNS = 4;
    private static final int VARIABLES = 4;
    private static final int REGISTERS = 10;
    private static final int MOST_SIZE = 40;
    private static final int NAMES = 100;
    private static final int LAWS = 20;
    private static final int EQUIVALENCES = 4;
    private static final int ASSUMPTIONS = 3;
    private static final int CHAINS = 4;
    private static final int LINES = 12;
    private static final int IMAGES = 2;
    private static final int CHANGES = 8;
    private static final int MOST_STEPS = 4;
    private static final int ORDERS = 65536;
    private static final int TEXT_ROOM = 200;
    private static final int OUTPUT_ROOM = 512;

    /** The present state: undo and restore copy into it. */
    private final State now = new State();
    private final State[] past = new State[CHANGES];
    private int pastNext = 0;
    private int pastCount = 0;
    private final State[] images = new State[IMAGES];
    private final boolean[] isKept = new boolean[IMAGES];
    private int lastStamp = 0;
    private final Text text = new Text(TEXT_ROOM);
    private final Text output = new Text(OUTPUT_ROOM);
    private final int[] row = new int[MOST_SIZE];
    private final int[] otherRow = new int[MOST_SIZE];
    private final Instance instance = new Instance();
    private final Checker checker = new Checker();
    private final Search search = new Search();
    private final Orders small = new Orders();

    public Chainwork() {
        for (int i = 0; i < CHANGES; i++) {
            past[i] = new State();
        }
        for (int i = 0; i < IMAGES; i++) {
            images[i] = new State();
        }
    }

    // ---- Changes: signs, terms

    public int sign(int places, int first, int second) throws IllegalArgumentException, IllegalStateException {
        checkNumber(places, 2);
        checkNumber(places > 0 ? first : RISES, MIXED);
        checkNumber(places > 1 ? second : RISES, MIXED);
        if (now.signCount >= SIGNS) {
            throw new IllegalStateException("there are 4 signs");
        }
        keepForUndo();
        int number = now.signCount;
        now.signs[number] = new Sign(places, first, second);
        now.signCount = number + 1;
        now.told = freshStamp();
        return number;
    }

    public int variable(int register, int variable) throws IndexOutOfBoundsException, IllegalArgumentException {
        checkIndex(register, REGISTERS);
        checkNumber(variable, VARIABLES - 1);
        keepForUndo();
        row[0] = variable;
        now.registers[register] = new Term(row, 0, 1, now.signs);
        return now.countFilled();
    }

    public int term(int register, int sign, int first, int second) throws IndexOutOfBoundsException, IllegalStateException {
        checkIndex(register, REGISTERS);
        checkIndex(sign, now.signCount);
        int places = now.signs[sign].places;
        checkIndex(places > 0 ? first : 0, REGISTERS);
        checkIndex(places > 1 ? second : 0, REGISTERS);
        int size = 1;
        size += places > 0 ? filled(first).size : 0;
        size += places > 1 ? filled(second).size : 0;
        if (size > MOST_SIZE) {
            throw new IllegalStateException("the term would be greater than 40");
        }
        keepForUndo();
        row[0] = Term.nodeOf(sign, places);
        int end = places > 0 ? copyNodes(filled(first), 1) : 1;
        end = places > 1 ? copyNodes(filled(second), end) : end;
        now.registers[register] = new Term(row, 0, end, now.signs);
        return end;
    }

    public int read(int register) throws IndexOutOfBoundsException, IllegalArgumentException {
        checkIndex(register, REGISTERS);
        if (text.parse(now) != NONE) {
            throw new IllegalArgumentException("the text has an error");
        }
        keepForUndo();
        now.registers[register] = new Term(text.nodes, 0, text.size, now.signs);
        return text.size;
    }

    public int part(int register, int place, int into) throws IndexOutOfBoundsException, IllegalStateException {
        checkIndex(register, REGISTERS);
        checkIndex(into, REGISTERS);
        Term whole = filled(register);
        checkIndex(place, whole.size);
        int size = whole.ends[place] - place;
        keepForUndo();
        now.registers[into] = new Term(whole.nodes, place, size, now.signs);
        return size;
    }

    // ---- Changes: laws

    public int law(int name, int left, int relation, int right)
            throws IllegalArgumentException, IndexOutOfBoundsException, IllegalStateException {
        checkNumber(name, NAMES - 1);
        checkNumber(relation, LESS);
        checkIndex(left, REGISTERS);
        checkIndex(right, REGISTERS);
        Law told = new Law(name, filled(left), relation, filled(right));
        checkRoomForLaw(name);
        keepForUndo();
        now.enter(told);
        now.told = freshStamp();
        return now.lawCount;
    }

    public boolean condition(int name, int first, int second)
            throws NoSuchElementException, IndexOutOfBoundsException, IllegalStateException, IllegalArgumentException {
        Law old = lawThere(name);
        checkIndex(first, REGISTERS);
        checkIndex(second, REGISTERS);
        Term x = filled(first);
        Term y = filled(second);
        if (old.isProved || now.isRestedOn(old)) {
            throw new IllegalStateException("the law was proved, or a law rests on it");
        }
        if (((x.variables | y.variables) & ~old.variables()) != 0) {
            throw new IllegalArgumentException("a variable of the condition stands in none of the terms");
        }
        keepForUndo();
        Law limited = new Law(name, old.left, old.relation, old.right);
        limited.limit(x, y);
        limited.serial = old.serial;
        now.laws[name] = limited;
        now.told = freshStamp();
        return old.hasCondition();
    }

    public int equivalence(int name, int first, int second, int third, int fourth)
            throws IllegalArgumentException, IndexOutOfBoundsException, IllegalStateException {
        checkNumber(name, NAMES - 1);
        checkIndex(first, REGISTERS);
        checkIndex(second, REGISTERS);
        checkIndex(third, REGISTERS);
        checkIndex(fourth, REGISTERS);
        Law left = new Law(name, filled(first), LESS, filled(second));
        Law right = new Law(name, filled(third), LESS, filled(fourth));
        if (now.isTaken(name) || now.equivalenceCount >= EQUIVALENCES) {
            throw new IllegalStateException("the name is taken, or there are 4 equivalences");
        }
        keepForUndo();
        now.equivalences[now.equivalenceCount] = new Equivalence(name, left, right);
        now.equivalenceCount++;
        now.told = freshStamp();
        return now.equivalenceCount;
    }

    public int assume(int first, int second) throws IndexOutOfBoundsException, IllegalStateException {
        checkIndex(first, REGISTERS);
        checkIndex(second, REGISTERS);
        Term least = filled(first);
        Term greatest = filled(second);
        if (now.assumptionCount >= ASSUMPTIONS) {
            throw new IllegalStateException("3 assumptions are open");
        }
        keepForUndo();
        int name = NAMES + now.assumptionCount;
        now.assumptions[now.assumptionCount] = new Law(name, least, LESS, greatest);
        now.assumptionCount++;
        return name;
    }

    public int giveUp() throws NoSuchElementException {
        latestAssumption();
        keepForUndo();
        now.closeLatest();
        return now.assumptionCount;
    }

    public int end(int name, int chain)
            throws IllegalArgumentException, IndexOutOfBoundsException, NoSuchElementException, IllegalStateException {
        checkNumber(name, NAMES - 1);
        checkIndex(chain, CHAINS);
        Law assumption = latestAssumption();
        checker.judge(now, now.chains[chain], 1 << (now.assumptionCount - 1));
        Law proved = provedBy(now.chains[chain], name);
        checkRoomForLaw(name);
        if ((assumption.variables() & ~proved.variables()) != 0) {
            throw new IllegalStateException("a variable of the assumption stands in neither line");
        }
        proved.limit(assumption.left, assumption.right);
        keepForUndo();
        now.closeLatest();
        now.enter(proved);
        return proved.relation;
    }

    public int lemma(int name, int chain) throws IllegalArgumentException, IndexOutOfBoundsException, IllegalStateException {
        checkNumber(name, NAMES - 1);
        checkIndex(chain, CHAINS);
        checker.judge(now, now.chains[chain], 0);
        Law proved = provedBy(now.chains[chain], name);
        checkRoomForLaw(name);
        keepForUndo();
        now.enter(proved);
        return proved.relation;
    }

    public int cases(int name, int first, int second)
            throws IllegalArgumentException, NoSuchElementException, IllegalStateException {
        checkNumber(name, NAMES - 1);
        Law one = now.lawNamed(first);
        Law other = now.lawNamed(second);
        if (one != null && other != null && !one.isOtherCaseOf(other)) {
            throw new IllegalArgumentException("the laws are no two cases");
        }
        one = lawThere(first);
        other = lawThere(second);
        checkRoomForLaw(name);
        boolean areEqual = one.relation == EQUAL && other.relation == EQUAL;
        Law proved = new Law(name, one.left, areEqual ? EQUAL : LESS, one.right);
        proved.prove(one.mark() | other.mark());
        keepForUndo();
        now.enter(proved);
        return proved.relation;
    }

    public int across(int name, int law, int equivalence, boolean isForward)
            throws IllegalArgumentException, NoSuchElementException, IllegalStateException {
        checkNumber(name, NAMES - 1);
        Law known = now.lawNamed(law);
        Equivalence both = now.equivalenceNamed(equivalence);
        if (known != null && both != null && !both.isReadyFor(known, isForward, instance)) {
            throw new IllegalArgumentException("the law is no instance of the line");
        }
        if (known == null || both == null) {
            throw new NoSuchElementException("there is no such law or equivalence");
        }
        checkRoomForLaw(name);
        Law wanted = isForward ? both.right : both.left;
        int leftSize = instance.put(wanted.left, row, 0);
        int rightSize = instance.put(wanted.right, otherRow, 0);
        if (leftSize == NONE || rightSize == NONE) {
            throw new IllegalStateException("a term of the law would be greater than 40");
        }
        Term left = new Term(row, 0, leftSize, now.signs);
        Law proved = new Law(name, left, LESS, new Term(otherRow, 0, rightSize, now.signs));
        proved.prove(known.mark());
        keepForUndo();
        now.enter(proved);
        return now.lawCount;
    }

    // ---- Changes: chains

    public int begin(int chain, int register) throws IndexOutOfBoundsException, IllegalStateException {
        checkIndex(chain, CHAINS);
        checkIndex(register, REGISTERS);
        Term first = filled(register);
        keepForUndo();
        int before = now.chains[chain].count;
        Chain begun = new Chain();
        begun.add(first, NONE);
        now.chains[chain] = begun;
        return before;
    }

    public int line(int chain, int name, int register)
            throws IndexOutOfBoundsException, IllegalArgumentException, IllegalStateException {
        checkIndex(chain, CHAINS);
        checkIndex(register, REGISTERS);
        checkNumber(name, NAMES + ASSUMPTIONS - 1);
        Term next = filled(register);
        checkRoomForLine(chain);
        keepForUndo();
        now.chains[chain] = now.chains[chain].with(next, name);
        return now.chains[chain].count;
    }

    public int step(int chain, int name, int register)
            throws IndexOutOfBoundsException, NoSuchElementException, IllegalStateException, IllegalArgumentException {
        checkIndex(chain, CHAINS);
        checkIndex(register, REGISTERS);
        Law law = now.lawOrAssumption(name, now.allOpen());
        if (law == null) {
            throw new NoSuchElementException("there is no such law or assumption");
        }
        Term next = filled(register);
        checkRoomForLine(chain);
        Chain old = now.chains[chain];
        if (!checker.goes(now, law, old.rows[old.count - 1], next, now.allOpen())) {
            throw new IllegalArgumentException("the step is not right");
        }
        keepForUndo();
        now.chains[chain] = old.with(next, name);
        return checker.relation;
    }

    public int turn(int chain) throws IndexOutOfBoundsException {
        checkIndex(chain, CHAINS);
        keepForUndo();
        now.chains[chain] = now.chains[chain].turned();
        return now.chains[chain].count;
    }

    public int join(int first, int second, int into)
            throws IndexOutOfBoundsException, IllegalStateException, IllegalArgumentException {
        checkIndex(first, CHAINS);
        checkIndex(second, CHAINS);
        checkIndex(into, CHAINS);
        Chain one = now.chains[first];
        Chain other = now.chains[second];
        if (one.count == 0 || other.count == 0 || one.count + other.count - 1 > LINES) {
            throw new IllegalStateException("a chain has no line, or there would be more than 12");
        }
        if (!one.rows[one.count - 1].isSame(other.rows[0])) {
            throw new IllegalArgumentException("the lines are not the same term");
        }
        keepForUndo();
        now.chains[into] = one.joined(other);
        return now.chains[into].count;
    }

    public int cut(int chain, int from, int to, int into) throws IndexOutOfBoundsException, IllegalArgumentException {
        checkIndex(chain, CHAINS);
        checkIndex(from, now.chains[chain].count);
        checkIndex(to, now.chains[chain].count);
        checkIndex(into, CHAINS);
        if (to < from) {
            throw new IllegalArgumentException("the last line is ahead of the first one");
        }
        keepForUndo();
        now.chains[into] = now.chains[chain].piece(from, to);
        return now.chains[into].count;
    }

    public int take(int chain, int line, int register) throws IndexOutOfBoundsException {
        checkIndex(chain, CHAINS);
        checkIndex(line, now.chains[chain].count);
        checkIndex(register, REGISTERS);
        keepForUndo();
        Term taken = now.chains[chain].rows[line];
        now.registers[register] = taken;
        return taken.size;
    }

    public int find(int chain, int from, int to, int relation, int most)
            throws IndexOutOfBoundsException, IllegalArgumentException, IllegalStateException, NoSuchElementException {
        checkIndex(chain, CHAINS);
        checkIndex(from, REGISTERS);
        checkIndex(to, REGISTERS);
        checkNumber(relation, MORE);
        checkNumber(most, MOST_STEPS);
        int steps = search.run(now, filled(from), filled(to), relation, most);
        if (search.isFull) {
            throw new IllegalStateException("the 1001st term would be found");
        }
        if (steps == NONE) {
            throw new NoSuchElementException("there is no such chain");
        }
        keepForUndo();
        now.chains[chain] = search.path(now.signs, steps);
        return steps;
    }

    // ---- Changes: images

    public int restore(int image) throws IndexOutOfBoundsException, IllegalStateException {
        checkIndex(image, IMAGES);
        if (!isKept[image]) {
            throw new IllegalStateException("no image was kept there");
        }
        keepForUndo();
        now.copyFrom(images[image]);
        return now.lawCount;
    }

    public int undo() throws IllegalStateException {
        if (pastCount == 0) {
            throw new IllegalStateException("there is no change to undo");
        }
        pastNext = pastNext == 0 ? CHANGES - 1 : pastNext - 1;
        pastCount--;
        now.copyFrom(past[pastNext]);
        return pastCount;
    }

    // ---- images, texts

    public boolean image(int image) throws IndexOutOfBoundsException {
        checkIndex(image, IMAGES);
        boolean wasKept = isKept[image];
        images[image].copyFrom(now);
        isKept[image] = true;
        return wasKept;
    }

    public int type(long bytes) throws IllegalStateException {
        int added = 0;
        for (int shift = 56; shift >= 0; shift -= 8) {
            added += (bytes >>> shift & 255) != 0 ? 1 : 0;
        }
        if (text.count + added > TEXT_ROOM) {
            throw new IllegalStateException("the text would have more than 200 bytes");
        }
        for (int shift = 56; shift >= 0; shift -= 8) {
            int next = (int) (bytes >>> shift & 255);
            if (next != 0) {
                text.add(next);
            }
        }
        return text.count;
    }

    public int clearText() {
        int before = text.count;
        text.count = 0;
        return before;
    }

    public int errorPlace() {
        return text.parse(now);
    }

    public int write(int register) throws IndexOutOfBoundsException, IllegalStateException {
        checkIndex(register, REGISTERS);
        Term written = filled(register);
        output.count = 0;
        output.addTerm(written);
        return output.count;
    }

    public int writeLaw(int name) throws NoSuchElementException {
        Law written = lawThere(name);
        output.count = 0;
        output.addLaw(written);
        return output.count;
    }

    public int outputAt(int index) throws NoSuchElementException {
        if (index < 0 || index >= output.count) {
            throw new NoSuchElementException("there is no such character");
        }
        return output.bytes[index];
    }

    // ---- terms, laws

    public int signs() {
        return now.signCount;
    }

    public int termAt(int register, int what) throws IndexOutOfBoundsException, IllegalArgumentException {
        checkIndex(register, REGISTERS);
        checkNumber(what, 3);
        Term told = now.registers[register];
        if (told == null) {
            return NONE;
        }
        switch (what) {
            case 0: return told.size;
            case 1: return told.depth();
            case 2: return told.variables;
            default: return Term.signOf(told.nodes[0]);
        }
    }

    public boolean areSame(int register, int other) throws IndexOutOfBoundsException {
        checkIndex(register, REGISTERS);
        checkIndex(other, REGISTERS);
        Term one = now.registers[register];
        Term two = now.registers[other];
        return one != null && two != null && one.isSame(two);
    }

    public int direction(int register, int place) throws IndexOutOfBoundsException, IllegalStateException {
        checkIndex(register, REGISTERS);
        Term whole = filled(register);
        checkIndex(place, whole.size);
        return whole.directions[place];
    }

    public int laws() {
        return now.lawCount;
    }

    public int lawAt(int name, int what) throws NoSuchElementException, IllegalArgumentException {
        Law told = lawThere(name);
        checkNumber(what, 5);
        switch (what) {
            case 0: return told.relation;
            case 1: return told.isProved ? 1 : 0;
            case 2: return told.hasCondition() ? 1 : 0;
            case 3: return Integer.bitCount(told.rests);
            case 4: return now.nextName(0, told.rests);
            default: return now.nextName(name + 1, NONE);
        }
    }

    public boolean rests(int name, int other) throws NoSuchElementException {
        Law upper = lawThere(name);
        Law lower = lawThere(other);
        return (upper.rests & lower.bit()) != 0;
    }

    public int open() {
        return now.assumptionCount;
    }

    // ---- chains

    public int lines(int chain) throws IndexOutOfBoundsException {
        checkIndex(chain, CHAINS);
        return now.chains[chain].count;
    }

    public int wrong(int chain) throws IndexOutOfBoundsException {
        checkIndex(chain, CHAINS);
        checker.judge(now, now.chains[chain], now.allOpen());
        return checker.wrongLine;
    }

    public int relation(int chain) throws IndexOutOfBoundsException {
        checkIndex(chain, CHAINS);
        checker.judge(now, now.chains[chain], now.allOpen());
        return checker.chainRelation;
    }

    public int stepAt(int chain, int line, int what) throws IndexOutOfBoundsException, IllegalArgumentException {
        checkIndex(chain, CHAINS);
        Chain told = now.chains[chain];
        checkIndex(line, told.count);
        checkIndex(line - 1, told.count);
        checkNumber(what, 4);
        if (what == 0) {
            return told.names[line];
        }
        if (what == 4) {
            return checker.leastName(now, told.rows[line - 1], told.rows[line]);
        }
        Law law = now.lawOrAssumption(told.names[line], now.allOpen());
        if (law == null || !checker.goes(now, law, told.rows[line - 1], told.rows[line], now.allOpen())) {
            return NONE;
        }
        switch (what) {
            case 1: return checker.relation;
            case 2: return checker.isForward ? 1 : 0;
            default: return checker.place;
        }
    }

    public int needs(int chain) throws IndexOutOfBoundsException {
        checkIndex(chain, CHAINS);
        return now.chains[chain].countNames();
    }

    // ---- small orders

    public int orders() {
        small.renew(now);
        return small.countObeying();
    }

    public int fails(int left, int relation, int right, int from)
            throws IndexOutOfBoundsException, IllegalStateException, IllegalArgumentException {
        checkIndex(left, REGISTERS);
        checkIndex(right, REGISTERS);
        Law asked = new Law(NONE, filled(left), relation, filled(right));
        checkNumber(relation, LESS);
        checkNumber(from, ORDERS - 1);
        small.renew(now);
        return small.firstFailing(small.obeying, asked, from);
    }

    public int value(int order, int register, int values)
            throws IndexOutOfBoundsException, IllegalStateException, IllegalArgumentException {
        checkIndex(register, REGISTERS);
        Term valued = filled(register);
        checkNumber(order, ORDERS - 1);
        checkNumber(values, 15);
        return small.valuesOf(valued, order) >> values & 1;
    }

    // ---- measures

    public double meanLines() {
        int sum = 0;
        int some = 0;
        for (int i = 0; i < CHAINS; i++) {
            sum += now.chains[i].count;
            some += now.chains[i].count > 0 ? 1 : 0;
        }
        return some == 0 ? 0.0 : (double) sum / (double) some;
    }

    public float provedShare() {
        int proved = 0;
        for (int name = 0; name < NAMES; name++) {
            Law law = now.laws[name];
            proved += law != null && law.isProved ? 1 : 0;
        }
        return now.lawCount == 0 ? 0.0f : (float) proved / (float) now.lawCount;
    }

    public long checksum() {
        long sum = 7;
        for (int name = 0; name < NAMES; name++) {
            Law law = now.laws[name];
            if (law != null) {
                sum = 31 * sum + name + 100L * law.left.size + 10000L * law.right.size;
            }
        }
        return sum;
    }

    public int errors() {
        small.renew(now);
        int count = 0;
        for (int name = 0; name < NAMES; name++) {
            Law law = now.laws[name];
            if (law != null && law.isProved) {
                boolean isWrong = (law.rests & law.bit()) != 0 || small.firstFailing(small.obeying, law, 0) != NONE;
                count += isWrong ? 1 : 0;
            }
        }
        small.limitToAssumptions(now);
        for (int i = 0; i < CHAINS; i++) {
            checker.judge(now, now.chains[i], now.allOpen());
            Law told = checker.chainLaw(now.chains[i], NONE);
            count += told != null && small.firstFailing(small.assumed, told, 0) != NONE ? 1 : 0;
        }
        return count;
    }

    // ---- what the calls share

    private static void checkNumber(int number, int last) {
        if (number < 0 || number > last) {
            throw new IllegalArgumentException("a number is out of range");
        }
    }

    private static void checkIndex(int index, int count) {
        if (index < 0 || index >= count) {
            throw new IndexOutOfBoundsException("there is none with this number");
        }
    }

    private void checkRoomForLaw(int name) {
        if (now.isTaken(name) || now.lawCount >= LAWS) {
            throw new IllegalStateException("the name is taken, or there are 20 laws");
        }
    }

    private void checkRoomForLine(int chain) {
        if (now.chains[chain].count == 0 || now.chains[chain].count >= LINES) {
            throw new IllegalStateException("the chain has no line, or 12");
        }
    }

    private Term filled(int register) {
        Term found = now.registers[register];
        if (found == null) {
            throw new IllegalStateException("the register is empty");
        }
        return found;
    }

    private Law lawThere(int name) {
        Law found = now.lawNamed(name);
        if (found == null) {
            throw new NoSuchElementException("there is no such law");
        }
        return found;
    }

    private Law latestAssumption() {
        if (now.assumptionCount == 0) {
            throw new NoSuchElementException("no assumption is open");
        }
        return now.assumptions[now.assumptionCount - 1];
    }

    /** The law that the chain proves that was judged last. */
    private Law provedBy(Chain chain, int name) {
        Law proved = checker.chainLaw(chain, name);
        if (proved == null) {
            throw new IllegalStateException("the chain proves nothing");
        }
        return proved;
    }

    private int copyNodes(Term term, int start) {
        System.arraycopy(term.nodes, 0, row, start, term.size);
        return start + term.size;
    }

    private void keepForUndo() {
        past[pastNext].copyFrom(now);
        pastNext = pastNext == CHANGES - 1 ? 0 : pastNext + 1;
        pastCount = Math.min(pastCount + 1, CHANGES);
    }

    /** A number that no state had before, so that equal stamps mean equal told things. */
    private int freshStamp() {
        lastStamp++;
        return lastStamp;
    }

    /** A sign: its places and their directions. */
    private static final class Sign {
        final int places;
        final int first;
        final int second;

        Sign(int places, int first, int second) {
            this.places = places;
            this.first = first;
            this.second = second;
        }

        /** Whether the way, told by its number, makes values as the directions want it. */
        boolean allows(int way) {
            int ways = 1 << (1 << places);
            return way < ways
                && (places < 1 || keeps(first, way & 5, way >> 1 & 5))
                && (places < 2 || keeps(second, way & 3, way >> 2 & 3));
        }

        private static boolean keeps(int direction, int ofLess, int ofGreater) {
            switch (direction) {
                case RISES: return (ofLess & ~ofGreater) == 0;
                case FALLS: return (ofGreater & ~ofLess) == 0;
                default: return true;
            }
        }
    }

    /**
     * A term as the row of its nodes, a term ahead of its parts. A node tells its places itself, so
     * that two terms are the same just if their rows are. Registers, laws and chains share terms:
     * those are never changed; only the terms made with a room are filled again and again.
     */
    private static final class Term {
        final int[] nodes;
        final int[] ends;
        final int[] directions;
        int size;
        int variables;
        int signMask;

        Term(int room) {
            nodes = new int[room];
            ends = new int[room];
            directions = new int[room];
        }

        Term(int[] row, int start, int size, Sign[] signs) {
            this(size);
            load(row, start, size);
            settle(signs);
        }

        static int nodeOf(int sign, int places) {
            return VARIABLES + SIGNS * places + sign;
        }

        static int placesOf(int node) {
            return node < VARIABLES ? 0 : (node - VARIABLES) / SIGNS;
        }

        static int signOf(int node) {
            return node < VARIABLES ? NONE : (node - VARIABLES) % SIGNS;
        }

        void load(int[] row, int start, int length) {
            size = Math.min(length, nodes.length);
            System.arraycopy(row, start, nodes, 0, size);
        }

        void settle(Sign[] signs) {
            findEnds();
            variables = 0;
            signMask = 0;
            directions[0] = RISES;
            for (int i = 0; i < size; i++) {
                int number = signOf(nodes[i]);
                if (number == NONE) {
                    variables |= 1 << nodes[i];
                } else {
                    signMask |= 1 << number;
                    turnParts(i, signs[number]);
                }
            }
        }

        /** From the last node on: the end of a part is known ahead of that of what is around it. */
        void findEnds() {
            for (int i = size - 1; i >= 0; i--) {
                int end = i + 1;
                int places = placesOf(nodes[i]);
                for (int k = 0; k < places && end < size; k++) {
                    end = ends[end];
                }
                ends[i] = end;
            }
        }

        private void turnParts(int place, Sign sign) {
            int part = place + 1;
            for (int k = 0; k < sign.places && part < size; k++) {
                int own = k == 0 ? sign.first : sign.second;
                int outer = directions[place];
                directions[part] = outer == MIXED || own == MIXED ? MIXED : outer ^ own;
                part = ends[part];
            }
        }

        boolean isSame(Term other) {
            if (size != other.size) {
                return false;
            }
            for (int i = 0; i < size; i++) {
                if (nodes[i] != other.nodes[i]) {
                    return false;
                }
            }
            return true;
        }

        int depth() {
            int deepest = 0;
            for (int i = 0; i < size; i++) {
                int around = 1;
                for (int k = 0; k < i; k++) {
                    around += ends[k] > i ? 1 : 0;
                }
                deepest = Math.max(deepest, around);
            }
            return deepest;
        }
    }

    /**
     * A law, or an assumption (a name from 100 on), or a line that is only asked about. Once it is
     * in a state it is never changed, since states share it.
     */
    private static final class Law {
        final int name;
        final Term left;
        final int relation;
        final Term right;
        int serial = 0;
        boolean isProved = false;
        int rests = 0;
        Term first = null;
        Term second = null;

        Law(int name, Term left, int relation, Term right) {
            this.name = name;
            this.left = left;
            this.relation = relation;
            this.right = right;
        }

        void limit(Term x, Term y) {
            first = x;
            second = y;
        }

        void prove(int marks) {
            isProved = true;
            rests = marks;
        }

        boolean hasCondition() {
            return first != null && second != null;
        }

        /** An assumption is its only instance: its variables stay what they are. */
        boolean isFixed() {
            return name >= NAMES;
        }

        int variables() {
            return left.variables | right.variables;
        }

        int signMask() {
            int mask = left.signMask | right.signMask;
            return hasCondition() ? mask | first.signMask | second.signMask : mask;
        }

        int bit() {
            return isFixed() ? 0 : 1 << serial;
        }

        /** The law and all on which it rests. */
        int mark() {
            return bit() | rests;
        }

        /** The relation of a way at a place of this direction; NONE if there is no such way. */
        int relationAt(int direction, boolean isForward) {
            if (relation == EQUAL) {
                return EQUAL;
            }
            if (direction == MIXED) {
                return NONE;
            }
            return (direction == RISES) == isForward ? LESS : MORE;
        }

        boolean isOtherCaseOf(Law other) {
            return hasCondition() && other.hasCondition()
                && left.isSame(other.left) && right.isSame(other.right)
                && first.isSame(other.second) && second.isSame(other.first);
        }
    }

    /** Two lines, kept as laws, each of which holds just if the other one does. */
    private static final class Equivalence {
        final int name;
        final Law left;
        final Law right;

        Equivalence(int name, Law left, Law right) {
            this.name = name;
            this.left = left;
            this.right = right;
        }

        /** Whether the law lets the other line be made; the instance then tells its variables. */
        boolean isReadyFor(Law law, boolean isForward, Instance instance) {
            Law one = isForward ? left : right;
            Law wanted = isForward ? right : left;
            instance.forget();
            return !law.hasCondition()
                && (wanted.variables() & ~one.variables()) == 0
                && instance.fits(one.left, law.left, 0, false)
                && instance.fits(one.right, law.right, 0, false);
        }
    }

    /** A row of lines with the names of the steps to them; never changed once it is in a state. */
    private static final class Chain {
        final Term[] rows = new Term[LINES];
        final int[] names = new int[LINES];
        int count = 0;

        void add(Term line, int name) {
            if (count < LINES) {
                rows[count] = line;
                names[count] = count == 0 ? NONE : name;
                count++;
            }
        }

        private void addAll(Chain other, int from, int to) {
            for (int i = from; i <= to && i < other.count; i++) {
                add(other.rows[i], other.names[i]);
            }
        }

        Chain with(Term line, int name) {
            Chain longer = piece(0, count - 1);
            longer.add(line, name);
            return longer;
        }

        Chain piece(int from, int to) {
            Chain made = new Chain();
            made.addAll(this, from, to);
            return made;
        }

        Chain joined(Chain other) {
            Chain made = piece(0, count - 1);
            made.addAll(other, 1, other.count - 1);
            return made;
        }

        Chain turned() {
            Chain made = new Chain();
            int name = NONE;
            for (int i = count - 1; i >= 0; i--) {
                made.add(rows[i], name);
                name = names[i];
            }
            return made;
        }

        int countNames() {
            int different = 0;
            for (int i = 1; i < count; i++) {
                boolean isNew = true;
                for (int k = 1; k < i; k++) {
                    isNew = isNew && names[k] != names[i];
                }
                different += isNew ? 1 : 0;
            }
            return different;
        }
    }

    /** All that undo and restore bring back. */
    private static final class State {
        final Sign[] signs = new Sign[SIGNS];
        int signCount = 0;
        final Term[] registers = new Term[REGISTERS];
        final Law[] laws = new Law[NAMES];
        int lawCount = 0;
        final Equivalence[] equivalences = new Equivalence[EQUIVALENCES];
        int equivalenceCount = 0;
        final Law[] assumptions = new Law[ASSUMPTIONS];
        int assumptionCount = 0;
        final Chain[] chains = new Chain[CHAINS];
        /** Changes with each sign, told law, condition and equivalence. */
        int told = 0;

        State() {
            Chain empty = new Chain();
            for (int i = 0; i < CHAINS; i++) {
                chains[i] = empty;
            }
        }

        void copyFrom(State other) {
            for (int i = 0; i < SIGNS; i++) {
                signs[i] = other.signs[i];
            }
            for (int i = 0; i < REGISTERS; i++) {
                registers[i] = other.registers[i];
            }
            for (int i = 0; i < NAMES; i++) {
                laws[i] = other.laws[i];
            }
            for (int i = 0; i < EQUIVALENCES; i++) {
                equivalences[i] = other.equivalences[i];
            }
            for (int i = 0; i < ASSUMPTIONS; i++) {
                assumptions[i] = other.assumptions[i];
            }
            for (int i = 0; i < CHAINS; i++) {
                chains[i] = other.chains[i];
            }
            signCount = other.signCount;
            lawCount = other.lawCount;
            equivalenceCount = other.equivalenceCount;
            assumptionCount = other.assumptionCount;
            told = other.told;
        }

        int countFilled() {
            int filled = 0;
            for (int i = 0; i < REGISTERS; i++) {
                filled += registers[i] != null ? 1 : 0;
            }
            return filled;
        }

        /** Null if there is none. */
        Law lawNamed(int name) {
            return name >= 0 && name < NAMES ? laws[name] : null;
        }

        /** Null if there is none, or it is an assumption whose bit does not count. */
        Law lawOrAssumption(int name, int counting) {
            int number = name - NAMES;
            if (number < 0 || number >= assumptionCount) {
                return lawNamed(name);
            }
            return (counting >> number & 1) != 0 ? assumptions[number] : null;
        }

        /** Null if there is none. */
        Equivalence equivalenceNamed(int name) {
            for (int i = 0; i < equivalenceCount; i++) {
                if (equivalences[i].name == name) {
                    return equivalences[i];
                }
            }
            return null;
        }

        boolean isTaken(int name) {
            return lawNamed(name) != null || equivalenceNamed(name) != null;
        }

        /** The least name from a name on of a law whose bit is in the mask. */
        int nextName(int from, int mask) {
            for (int name = Math.max(from, 0); name < NAMES; name++) {
                Law law = laws[name];
                if (law != null && (mask & law.bit()) != 0) {
                    return name;
                }
            }
            return NONE;
        }

        boolean isRestedOn(Law law) {
            for (int name = 0; name < NAMES; name++) {
                if (laws[name] != null && (laws[name].rests & law.bit()) != 0) {
                    return true;
                }
            }
            return false;
        }

        void enter(Law law) {
            law.serial = lawCount;
            laws[law.name] = law;
            lawCount++;
        }

        void closeLatest() {
            assumptionCount--;
            assumptions[assumptionCount] = null;
        }

        /** A bit for each open assumption. */
        int allOpen() {
            return (1 << assumptionCount) - 1;
        }
    }

    /** What the variables of a law stand for: for each of them a part of some term. */
    private static final class Instance {
        private final Term[] wholes = new Term[VARIABLES];
        private final int[] starts = new int[VARIABLES];

        void forget() {
            for (int i = 0; i < VARIABLES; i++) {
                wholes[i] = null;
            }
        }

        /** Whether the part at the place is what the pattern becomes; binds variables that are free. */
        boolean fits(Term pattern, Term whole, int place, boolean isFixed) {
            int at = place;
            for (int i = 0; i < pattern.size; i++) {
                int node = pattern.nodes[i];
                if (at >= whole.size) {
                    return false;
                }
                if (node >= VARIABLES || isFixed) {
                    if (whole.nodes[at] != node) {
                        return false;
                    }
                    at++;
                } else {
                    if (!takesPart(node, whole, at)) {
                        return false;
                    }
                    at = whole.ends[at];
                }
            }
            return true;
        }

        private boolean takesPart(int variable, Term whole, int place) {
            Term bound = wholes[variable];
            int start = starts[variable];
            if (bound == null) {
                wholes[variable] = whole;
                starts[variable] = place;
                return true;
            }
            int length = whole.ends[place] - place;
            if (bound.ends[start] - start != length) {
                return false;
            }
            for (int k = 0; k < length; k++) {
                if (bound.nodes[start + k] != whole.nodes[place + k]) {
                    return false;
                }
            }
            return true;
        }

        /** Puts the instance of the pattern into a row; returns its end, or NONE without room. */
        int put(Term pattern, int[] row, int start) {
            int at = start;
            for (int i = 0; i < pattern.size; i++) {
                int node = pattern.nodes[i];
                Term whole = node < VARIABLES ? wholes[node] : null;
                int from = whole == null ? 0 : starts[node];
                int length = whole == null ? 1 : whole.ends[from] - from;
                if (at + length > row.length) {
                    return NONE;
                }
                if (whole == null) {
                    row[at] = node;
                } else {
                    System.arraycopy(whole.nodes, from, row, at, length);
                }
                at += length;
            }
            return at;
        }
    }

    /** Checks steps and chains; tells the way in which a step is done. */
    private static final class Checker {
        /** A condition of 40 nodes, each a variable for which a term of 40 nodes stands. */
        private static final int CONDITION_ROOM = MOST_SIZE * MOST_SIZE;

        private final Instance instance = new Instance();
        private final Instance granting = new Instance();
        private final Term lesser = new Term(CONDITION_ROOM);
        private final Term greater = new Term(CONDITION_ROOM);
        boolean isForward = false;
        int place = 0;
        int relation = NONE;
        private int granted = 0;
        int wrongLine = NONE;
        int chainRelation = NONE;
        private int chainMarks = 0;

        /** Whether a term goes to another one by a law; then tells the first way. */
        boolean goes(State state, Law law, Term from, Term to, int counting) {
            int ahead = sameAhead(from, to);
            int behind = sameBehind(from, to);
            for (int k = 0; k < 2; k++) {
                isForward = k == 0;
                for (place = 0; place <= ahead && place < from.size && place < to.size; place++) {
                    int left = from.size - from.ends[place];
                    boolean isAlone = left <= behind && left == to.size - to.ends[place];
                    if (isAlone && isInstance(law, from, to) && isGranted(state, law, counting)) {
                        return true;
                    }
                }
            }
            return false;
        }

        /** Whether both terms have at the place what the law wants there, and the place suits its relation. */
        private boolean isInstance(Law law, Term from, Term to) {
            relation = law.relationAt(from.directions[place], isForward);
            Term source = isForward ? law.left : law.right;
            Term result = isForward ? law.right : law.left;
            instance.forget();
            return relation != NONE
                && instance.fits(source, from, place, law.isFixed())
                && instance.fits(result, to, place, law.isFixed());
        }

        private static int sameAhead(Term one, Term other) {
            int same = 0;
            while (same < one.size && same < other.size && one.nodes[same] == other.nodes[same]) {
                same++;
            }
            return same;
        }

        private static int sameBehind(Term one, Term other) {
            int same = 0;
            while (same < one.size && same < other.size
                    && one.nodes[one.size - 1 - same] == other.nodes[other.size - 1 - same]) {
                same++;
            }
            return same;
        }

        /** Whether the instance's condition is granted; the marks tell what law granted it. */
        private boolean isGranted(State state, Law law, int counting) {
            granted = 0;
            if (!law.hasCondition()) {
                return true;
            }
            if (!makes(law.first, lesser) || !makes(law.second, greater)) {
                return false;
            }
            if (lesser.isSame(greater)) {
                return true;
            }
            for (int i = 0; i < state.assumptionCount; i++) {
                Law assumed = state.assumptions[i];
                if ((counting >> i & 1) != 0 && assumed.left.isSame(lesser) && assumed.right.isSame(greater)) {
                    return true;
                }
            }
            for (int name = 0; name < NAMES; name++) {
                Law other = state.laws[name];
                if (other != null && !other.hasCondition() && grants(other)) {
                    granted = other.mark();
                    return true;
                }
            }
            return false;
        }

        private boolean makes(Term pattern, Term scratch) {
            scratch.size = Math.max(instance.put(pattern, scratch.nodes, 0), 0);
            scratch.findEnds();
            return scratch.size > 0;
        }

        private boolean grants(Law law) {
            granting.forget();
            if (granting.fits(law.left, lesser, 0, false) && granting.fits(law.right, greater, 0, false)) {
                return true;
            }
            granting.forget();
            return law.relation == EQUAL
                && granting.fits(law.right, lesser, 0, false) && granting.fits(law.left, greater, 0, false);
        }

        /** Tells the first wrong line of a chain and, if it is right, its relation and its marks. */
        void judge(State state, Chain chain, int counting) {
            wrongLine = NONE;
            chainMarks = 0;
            boolean isLess = false;
            boolean isMore = false;
            for (int i = 1; i < chain.count && wrongLine == NONE; i++) {
                Law law = state.lawOrAssumption(chain.names[i], counting);
                if (law != null && goes(state, law, chain.rows[i - 1], chain.rows[i], counting)) {
                    chainMarks |= law.mark() | granted;
                    isLess = isLess || relation == LESS;
                    isMore = isMore || relation == MORE;
                } else {
                    wrongLine = i;
                }
            }
            if (chain.count == 0 || wrongLine != NONE || isLess && isMore) {
                chainRelation = NONE;
            } else {
                chainRelation = isLess ? LESS : isMore ? MORE : EQUAL;
            }
        }

        /** The law that the chain judged last proves; null if it proves none. */
        Law chainLaw(Chain chain, int name) {
            if (chain.count == 0 || chainRelation == NONE) {
                return null;
            }
            Term first = chain.rows[0];
            Term last = chain.rows[chain.count - 1];
            boolean isTurned = chainRelation == MORE;
            int kind = chainRelation == EQUAL ? EQUAL : LESS;
            Law proved = new Law(name, isTurned ? last : first, kind, isTurned ? first : last);
            proved.prove(chainMarks);
            return proved;
        }

        /** The least name of a law or assumption by which the step would be right. */
        int leastName(State state, Term from, Term to) {
            for (int name = 0; name < NAMES + ASSUMPTIONS; name++) {
                Law law = state.lawOrAssumption(name, state.allOpen());
                if (law != null && goes(state, law, from, to, state.allOpen())) {
                    return name;
                }
            }
            return NONE;
        }
    }

    /** The search for the shortest chain, breadth first. */
    private static final class Search {
        private static final int MOST_FOUND = 1000;
        private static final int MOST_MADE = 25;
        private static final int TABLE = 2048;

        private final Instance instance = new Instance();
        private final int[] pool = new int[MOST_FOUND * MOST_SIZE];
        private final int[] sizes = new int[MOST_FOUND];
        private final int[] parents = new int[MOST_FOUND];
        private final int[] names = new int[MOST_FOUND];
        private final int[] table = new int[TABLE];
        private final int[] made = new int[MOST_SIZE];
        private int madeSize = 0;
        private final Term current = new Term(MOST_SIZE);
        private int currentIndex = 0;
        private int count = 0;
        private Term start = null;
        private Term goal = null;
        private int wanted = EQUAL;
        private boolean isFound = false;
        private int goalName = NONE;
        boolean isFull = false;

        /** The least number of steps; NONE if so few do not do, or the search is full. */
        int run(State state, Term from, Term to, int relation, int most) {
            start = from;
            goal = to;
            wanted = relation;
            count = 0;
            isFull = false;
            isFound = from.isSame(to);
            for (int i = 0; i < TABLE; i++) {
                table[i] = NONE;
            }
            madeSize = from.size;
            System.arraycopy(from.nodes, 0, made, 0, madeSize);
            enterMade(slotOfMade(), NONE);
            int level = 0;
            for (int steps = 0; steps <= most && !isFull; steps++) {
                if (isFound) {
                    return steps;
                }
                int end = count;
                for (int i = level; i < end && steps < most && !isFound && !isFull; i++) {
                    expand(state, i);
                }
                level = end;
            }
            return NONE;
        }

        private void expand(State state, int index) {
            currentIndex = index;
            current.load(pool, index * MOST_SIZE, sizes[index]);
            current.settle(state.signs);
            for (int name = 0; name < NAMES && !isFound && !isFull; name++) {
                Law law = state.laws[name];
                if (law != null && !law.hasCondition()) {
                    goBy(law, true);
                    goBy(law, false);
                }
            }
        }

        private void goBy(Law law, boolean isForward) {
            Term source = isForward ? law.left : law.right;
            Term result = isForward ? law.right : law.left;
            if ((result.variables & ~source.variables) != 0) {
                return;
            }
            for (int place = 0; place < current.size && !isFound && !isFull; place++) {
                int relation = law.relationAt(current.directions[place], isForward);
                instance.forget();
                if ((relation == EQUAL || relation == wanted)
                        && instance.fits(source, current, place, false) && makes(result, place)) {
                    meet(law.name);
                }
            }
        }

        /** Makes the current term with the result at the place; false if it would be too great. */
        private boolean makes(Term result, int place) {
            System.arraycopy(current.nodes, 0, made, 0, place);
            int end = instance.put(result, made, place);
            int behind = current.size - current.ends[place];
            if (end == NONE || end + behind > MOST_MADE) {
                return false;
            }
            System.arraycopy(current.nodes, current.ends[place], made, end, behind);
            madeSize = end + behind;
            return true;
        }

        private void meet(int name) {
            if (isMade(goal.nodes, 0, goal.size)) {
                isFound = true;
                goalName = name;
                return;
            }
            int slot = slotOfMade();
            if (table[slot] == NONE) {
                isFull = count >= MOST_FOUND;
                enterMade(slot, name);
            }
        }

        private boolean isMade(int[] row, int from, int size) {
            boolean isSame = size == madeSize;
            for (int i = 0; i < madeSize && isSame; i++) {
                isSame = row[from + i] == made[i];
            }
            return isSame;
        }

        /** The slot of the table where the made term stands, or a free one where it can come. */
        private int slotOfMade() {
            int hash = madeSize;
            for (int i = 0; i < madeSize; i++) {
                hash = hash * 31 + made[i];
            }
            int slot = (hash ^ hash >>> 11) & TABLE - 1;
            for (int tries = 0; tries < TABLE; tries++) {
                int index = table[slot];
                if (index == NONE || isMade(pool, index * MOST_SIZE, sizes[index])) {
                    return slot;
                }
                slot = slot + 1 & TABLE - 1;
            }
            return slot;
        }

        private void enterMade(int slot, int name) {
            if (count < MOST_FOUND) {
                System.arraycopy(made, 0, pool, count * MOST_SIZE, madeSize);
                sizes[count] = madeSize;
                parents[count] = currentIndex;
                names[count] = name;
                table[slot] = count;
                count++;
            }
        }

        /** The chain that was found. */
        Chain path(Sign[] signs, int steps) {
            int[] indexes = new int[MOST_STEPS];
            int index = currentIndex;
            for (int i = steps - 1; i >= 0 && i < MOST_STEPS; i--) {
                indexes[i] = index;
                index = parents[index];
            }
            Chain chain = new Chain();
            chain.add(start, NONE);
            for (int i = 1; i < steps && i < MOST_STEPS; i++) {
                int at = indexes[i];
                chain.add(new Term(pool, at * MOST_SIZE, sizes[at], signs), names[at]);
            }
            if (steps > 0) {
                chain.add(goal, goalName);
            }
            return chain;
        }
    }

    /** The small orders: a bit for each of the 65536 numbers. */
    private static final class Orders {
        private static final int WORDS = ORDERS / 32;
        private static final int ALL_VALUES = 65535;
        /** For each variable the bits of those of the 16 rows of values in which it is 1. */
        private static final int[] VALUES = {0xAAAA, 0xCCCC, 0xF0F0, 0xFF00};

        final int[] obeying = new int[WORDS];
        final int[] assumed = new int[WORDS];
        private final int[] isKnown = new int[WORDS];
        private final int[] isFailing = new int[WORDS];
        private final int[] stack = new int[MOST_SIZE];
        private int stamp = NONE;
        private int limit = 1;
        private Law one = null;
        private Law other = null;
        private int digits = 0;

        /** Finds the orders that obey what is told, unless they are known. */
        void renew(State state) {
            if (stamp == state.told) {
                return;
            }
            stamp = state.told;
            limit = ORDERS;
            clear(obeying);
            limit = 1;
            obeying[0] = 1;
            strikeTold(state, 0);
            for (int i = 0; i < state.signCount; i++) {
                spread(state.signs[i]);
                strikeTold(state, i + 1);
            }
        }

        /** Leaves in the other row the obeying orders in which the open assumptions hold. */
        void limitToAssumptions(State state) {
            System.arraycopy(obeying, 0, assumed, 0, WORDS);
            for (int i = 0; i < state.assumptionCount; i++) {
                strike(assumed, state.assumptions[i], null);
            }
        }

        int countObeying() {
            int count = 0;
            for (int i = 0; i < wordsInUse(); i++) {
                count += Integer.bitCount(obeying[i]);
            }
            return count;
        }

        /** The least order of the row, from a number on, in which the line does not hold. */
        int firstFailing(int[] row, Law line, int from) {
            look(line, null);
            for (int order = nextIn(row, from); order < limit; order = nextIn(row, order + 1)) {
                if (failsIn(order)) {
                    return order;
                }
            }
            return NONE;
        }

        private int wordsInUse() {
            return Math.min(limit + 31 >> 5, WORDS);
        }

        private void clear(int[] row) {
            int words = wordsInUse();
            for (int i = 0; i < words; i++) {
                row[i] = 0;
            }
        }

        /**
         * The least order of the row from a number on, or ORDERS, which is no order. Most words are
         * empty, so they are passed as one.
         */
        private int nextIn(int[] row, int from) {
            int words = wordsInUse();
            for (int order = Math.max(from, 0); order >> 5 < words; order++) {
                int rest = row[order >> 5] >>> (order & 31);
                if ((rest & 1) != 0) {
                    return order;
                }
                if (rest == 0) {
                    order |= 31;
                }
            }
            return ORDERS;
        }

        private static boolean isIn(int[] row, int order) {
            int word = order >> 5;
            return word >= 0 && word < WORDS && (row[word] >> (order & 31) & 1) != 0;
        }

        private static void put(int[] row, int order, boolean isThere) {
            int word = order >> 5;
            int bit = 1 << (order & 31);
            if (word >= 0 && word < WORDS) {
                row[word] = isThere ? row[word] | bit : row[word] & ~bit;
            }
        }

        /** Goes on from the orders of some signs to those with one more; always 0, its way 0, suits all directions. */
        private void spread(Sign sign) {
            for (int way = 1; way < 16; way++) {
                int last = sign.allows(way) ? limit : 0;
                for (int order = nextIn(obeying, 0); order < last; order = nextIn(obeying, order + 1)) {
                    put(obeying, order + way * limit, true);
                }
            }
            limit *= 16;
        }

        /** Strikes by what is told whose last sign is the newest one: the others struck before. */
        private void strikeTold(State state, int signs) {
            for (int name = 0; name < NAMES; name++) {
                Law law = state.laws[name];
                if (law != null && !law.isProved && signsUpTo(law.signMask()) == signs) {
                    strike(obeying, law, null);
                }
            }
            for (int i = 0; i < state.equivalenceCount; i++) {
                Law left = state.equivalences[i].left;
                Law right = state.equivalences[i].right;
                if (signsUpTo(left.signMask() | right.signMask()) == signs) {
                    strike(obeying, left, right);
                }
            }
        }

        private static int signsUpTo(int mask) {
            return mask >= 8 ? 4 : mask >= 4 ? 3 : mask >= 2 ? 2 : mask;
        }

        private void strike(int[] row, Law line, Law otherLine) {
            look(line, otherLine);
            for (int order = nextIn(row, 0); order < limit; order = nextIn(row, order + 1)) {
                if (failsIn(order)) {
                    put(row, order, false);
                }
            }
        }

        /** Orders that differ only in signs that the lines do not have are looked at once. */
        private void look(Law line, Law otherLine) {
            one = line;
            other = otherLine;
            int mask = otherLine == null ? line.signMask() : line.signMask() | otherLine.signMask();
            digits = 0;
            for (int i = 0; i < SIGNS; i++) {
                digits |= (mask >> i & 1) != 0 ? 15 << 4 * i : 0;
            }
            clear(isKnown);
        }

        /** One line fails where it does not hold; two fail where just one of them does not. */
        private boolean failsIn(int order) {
            int key = order & digits;
            if (!isIn(isKnown, key)) {
                int failing = 0;
                for (int i = 0; i < 2; i++) {
                    Law line = i == 0 ? one : other;
                    if (line != null) {
                        int left = valuesOf(line.left, key);
                        int right = valuesOf(line.right, key);
                        int own = line.relation == EQUAL ? left ^ right : left & ~right;
                        if (line.hasCondition()) {
                            own &= ~valuesOf(line.first, key) | valuesOf(line.second, key);
                        }
                        failing ^= own;
                    }
                }
                put(isKnown, key, true);
                put(isFailing, key, failing != 0);
            }
            return isIn(isFailing, key);
        }

        /** The values of a term for all 16 rows of values at once, from its last node on. */
        int valuesOf(Term term, int order) {
            int top = 0;
            for (int i = term.size - 1; i >= 0; i--) {
                int node = term.nodes[i];
                int places = Term.placesOf(node);
                int first = places > 0 && top > 0 ? stack[top - 1] : 0;
                int second = places > 1 && top > 1 ? stack[top - 2] : 0;
                top = Math.max(top - places, 0);
                if (top < MOST_SIZE) {
                    int way = node < VARIABLES ? 0 : order >> 4 * Term.signOf(node);
                    stack[top] = node < VARIABLES ? VALUES[node] : madeBy(way, first, second);
                    top++;
                }
            }
            return stack[0];
        }

        private static int madeBy(int way, int first, int second) {
            int made = (way & 1) != 0 ? ~first & ~second : 0;
            made |= (way & 2) != 0 ? first & ~second : 0;
            made |= (way & 4) != 0 ? ~first & second : 0;
            made |= (way & 8) != 0 ? first & second : 0;
            return made & ALL_VALUES;
        }
    }

    /** A row of bytes: the text that is read, or the output that is written. */
    private static final class Text {
        /** What the next byte of a text can be. */
        private static final int TERM = 0, OPENING = 1, BEHIND = 2, NOTHING = 3;

        final int[] bytes;
        int count = 0;
        final int[] nodes = new int[MOST_SIZE];
        int size = 0;
        /** For each sign that is open how many of its parts have not ended. */
        private final int[] missing = new int[MOST_SIZE];
        private int depth = 0;
        private int awaited = TERM;

        Text(int room) {
            bytes = new int[room];
        }

        void add(int next) {
            if (count < bytes.length) {
                bytes[count] = next;
                count++;
            }
        }

        /** Reads the term into the nodes; returns the place of the error, or NONE. */
        int parse(State state) {
            size = 0;
            depth = 0;
            awaited = TERM;
            for (int i = 0; i < count; i++) {
                if (bytes[i] != ' ' && !takes(bytes[i], state)) {
                    return i;
                }
            }
            return awaited == NOTHING ? NONE : count;
        }

        private boolean takes(int next, State state) {
            switch (awaited) {
                case TERM:
                    return takesLetter(next, state);
                case OPENING:
                    awaited = TERM;
                    return next == '(';
                case BEHIND:
                    return takesBehind(next);
                default:
                    return false;
            }
        }

        private boolean takesLetter(int letter, State state) {
            boolean isVariable = letter >= 'a' && letter < 'a' + VARIABLES;
            boolean isSign = letter >= 'p' && letter < 'p' + state.signCount;
            if (!isVariable && !isSign || size >= MOST_SIZE || depth >= MOST_SIZE) {
                return false;
            }
            int places = isSign ? state.signs[letter - 'p'].places : 0;
            nodes[size] = isSign ? Term.nodeOf(letter - 'p', places) : letter - 'a';
            size++;
            if (places > 0) {
                missing[depth] = places;
                depth++;
                awaited = OPENING;
            } else {
                awaited = depth == 0 ? NOTHING : BEHIND;
            }
            return true;
        }

        private boolean takesBehind(int next) {
            boolean isLastPart = depth > 0 && missing[depth - 1] == 1;
            if (depth > 0 && next == ',' && !isLastPart) {
                missing[depth - 1]--;
                awaited = TERM;
                return true;
            }
            if (isLastPart && next == ')') {
                depth--;
                awaited = depth == 0 ? NOTHING : BEHIND;
                return true;
            }
            return false;
        }

        void addTerm(Term term) {
            for (int i = 0; i < term.size; i++) {
                int node = term.nodes[i];
                add(node < VARIABLES ? 'a' + node : 'p' + Term.signOf(node));
                if (Term.placesOf(node) > 0) {
                    add('(');
                } else {
                    closeBehind(term, i);
                }
            }
        }

        /** Behind a node without parts: a bracket for each sign that ends there, then a comma if a part follows. */
        private void closeBehind(Term term, int place) {
            for (int i = 0; i < place; i++) {
                if (term.ends[i] == place + 1) {
                    add(')');
                }
            }
            if (place + 1 < term.size) {
                add(',');
            }
        }

        void addLaw(Law law) {
            addTerm(law.left);
            add(law.relation == EQUAL ? '=' : '<');
            addTerm(law.right);
            if (law.hasCondition()) {
                add(';');
                addTerm(law.first);
                add('<');
                addTerm(law.second);
            }
        }
    }
}
