import java.util.Arrays;
import java.util.NoSuchElementException;

/** Choices of so many things out of many, in an order in which each one is one swap away from the last. */
public final class SwapChoices {
    public static final int NONE = -1;
    public static final int HIDDEN = -1000000;

    private static final int MOST_THINGS = 10;
    private static final int MOST_CHOSEN = 9;
    private static final int MOST_CHOICES = 252;
    private static final int MOST_NEIGHBOURS = 25;
    private static final int MOST_RULES = 10;
    private static final int MOST_BYTES = 800;
    private static final int MOST_ASKED = 200;
    private static final int MOST_STEPS = 200;
    private static final int MOST_UNDONE = 10;
    private static final int MOST_OPEN = 6;
    private static final int MOST_WEIGHT = 99;
    private static final int MOST_COMPARED = 9999;
    private static final int LAST_MODE = 2;

    private static final int MOST_LETTERS = 6;
    private static final int LETTER_BITS = 5;
    private static final int LETTER_MASK = 31;
    private static final int BEFORE_A = 96;
    private static final int TOO_LONG = 1 << MOST_LETTERS * LETTER_BITS;
    private static final int TOO_GREAT = 10000;

    // The kinds of tokens.
    private static final int BLANK = 0;
    private static final int NAME = 1;
    private static final int KEYWORD = 2;
    private static final int NUMBER = 3;
    private static final int SIGN = 4;
    private static final int INVALID = 5;
    private static final int END = 6;

    // The kinds of a test's operations.
    private static final int AT_LEAST = 0;
    private static final int AT_MOST = 1;
    private static final int BY_WEIGHT = 2;
    private static final int BY_NUMBER = 3;
    private static final int NEGATE = 4;
    private static final int BOTH = 5;
    private static final int EITHER = 6;

    private static final int NOT_ALLOWED_HERE = 1;
    private static final int OUT_OF_RANGE = 2;
    private static final int BAD_NAME = 3;
    private static final int NO_THING = 4;
    private static final int TOO_MANY = 5;
    private static final int TOO_FEW = 6;
    private static final int TOO_DEEP = 7;

    // 9 names of 6 letters, 8 spaces and 3 marks take 65 bytes.
    private static final int MOST_SHOWN = 65;

    private static final Word[] WORDS = Word.values();

    private final byte[] buffer = new byte[MOST_BYTES];
    private int buffered = 0;
    private int errorAt = NONE;
    private final Order order = new Order();
    private final State state = new State();
    private final Rows rows = new Rows(order, state);
    private final Walk walk = new Walk(order, state, rows);
    private final Ways ways = new Ways(order);
    private final Past past = new Past();
    private final Tokens tokens = new Tokens();
    private final TestReader testReader = new TestReader(tokens, order);
    private final TextReader textReader = new TextReader(tokens, testReader);
    private final boolean[] otherRow = new boolean[MOST_CHOICES];
    private final int[] shown = new int[MOST_SHOWN];
    private int shownLength = 0;

    public SwapChoices() {
        order.chosen = 2;
        for (int thing = 0; thing < 4; thing++) {
            order.addThing(thing + 1);
            state.weights[thing] = thing + 1;
        }
        order.lay();
    }

    public int feed(int a, int b, int c, int d, int e) {
        if (buffered + 20 > MOST_BYTES) {
            return NONE;
        }
        append(a);
        append(b);
        append(c);
        append(d);
        append(e);
        return buffered;
    }

    private void append(int four) {
        for (int shift = 24; shift >= 0; shift -= 8) {
            if (buffered < buffer.length) {
                buffer[buffered] = (byte) (four >> shift);
                buffered++;
            }
        }
    }

    public int load(int length) throws IllegalArgumentException {
        if (length < 0 || length > buffered) {
            throw new IllegalArgumentException();
        }
        takeBuffer(length);
        boolean good = textReader.read();
        errorAt = tokens.errorAt;
        if (!good) {
            return -10 - tokens.error;
        }
        order.copyFrom(textReader.order);
        state.copyFrom(textReader.state);
        past.forget();
        rows.forgetTests();
        ways.forget();
        rows.look();
        return rows.openCount;
    }

    private void takeBuffer(int length) {
        tokens.split(buffer, length);
        buffered = 0;
    }

    public int errorPosition() {
        return errorAt;
    }

    public int size(int what) throws IllegalArgumentException {
        rows.look();
        switch (what) {
            case 0: return order.things;
            case 1: return order.chosen;
            case 2: return order.choices;
            case 3: return rows.openCount;
            case 4: return state.walked;
            case 5: return state.countStruck();
            case 6: return state.rules;
            case 7: return Integer.bitCount(state.on);
            case 8: return state.mode;
            case 9: return state.now();
            case 10: return state.walked;
            case 11: return trailSwaps();
            case 12: return ways.markParts(rows.open);
            case 13: return rows.countLeft();
            default: throw new IllegalArgumentException();
        }
    }

    private int trailSwaps() {
        int swaps = 0;
        for (int place = 1; place < state.walked; place++) {
            swaps += order.apart(state.trail[place - 1], state.trail[place]);
        }
        return swaps;
    }

    public int weight(int thing) throws NoSuchElementException {
        needThing(thing);
        return state.weights[thing];
    }

    public int nameByte(int thing, int index) throws NoSuchElementException {
        needThing(thing);
        int name = order.names[thing];
        if (index < 0 || index >= lettersOf(name)) {
            return NONE;
        }
        return letterAt(name, index);
    }

    private static int lettersOf(int name) {
        int letters = 0;
        for (int i = 0; i < MOST_LETTERS; i++) {
            if (name >> i * LETTER_BITS != 0) {
                letters++;
            }
        }
        return letters;
    }

    private static int letterAt(int name, int index) {
        int behind = lettersOf(name) - 1 - index;
        return BEFORE_A + (name >> behind * LETTER_BITS & LETTER_MASK);
    }

    private void needThing(int thing) {
        if (thing < 0 || thing >= order.things) {
            throw new NoSuchElementException();
        }
    }

    private void needChoice(int number) {
        if (number < 0 || number >= order.choices) {
            throw new NoSuchElementException();
        }
    }

    private void needRule(int number) {
        if (number < 0 || number >= state.rules) {
            throw new NoSuchElementException();
        }
    }

    // ---- choices

    public int choice(int choice, int what) throws NoSuchElementException, IllegalArgumentException {
        needChoice(choice);
        rows.look();
        switch (what) {
            case 0: return order.bits[choice];
            case 1: return rows.weights[choice];
            case 2: return rows.open[choice] ? 1 : 0;
            case 3: return rows.places[choice] != NONE ? 1 : 0;
            case 4: return state.struck[choice] ? 1 : 0;
            case 5: return order.lowestOnlyIn(order.before(choice), choice);
            case 6: return order.lowestOnlyIn(choice, order.before(choice));
            case 7:
                ways.markParts(rows.open);
                return ways.parts[choice];
            case 8: return ways.countNeighbours(choice, rows.open);
            case 9: return rows.places[choice];
            default: throw new IllegalArgumentException();
        }
    }

    public int numberOf(int things) {
        return order.numberAt(things);
    }

    public int distance(int choice, int other) throws NoSuchElementException {
        needChoice(choice);
        needChoice(other);
        return order.apart(choice, other);
    }

    public int swapped(int choice, int out, int in) throws NoSuchElementException {
        needChoice(choice);
        needThing(out);
        needThing(in);
        return order.after(choice, out, in);
    }

    public int nearest(int choice, boolean up) throws NoSuchElementException {
        needChoice(choice);
        rows.look();
        if (up) {
            for (int other = choice + 1; other < order.choices; other++) {
                if (rows.open[other]) {
                    return other;
                }
            }
            return NONE;
        }
        for (int other = choice - 1; other >= 0; other--) {
            if (rows.open[other]) {
                return other;
            }
        }
        return NONE;
    }

    public int with(int thing) throws NoSuchElementException {
        needThing(thing);
        rows.look();
        int count = 0;
        for (int choice = 0; choice < order.choices; choice++) {
            if (rows.open[choice] && (order.bits[choice] >> thing & 1) != 0) {
                count++;
            }
        }
        return count;
    }

    public int heaviest() {
        rows.look();
        int best = NONE;
        int most = NONE;
        for (int choice = 0; choice < order.choices; choice++) {
            if (rows.open[choice] && rows.weights[choice] > most) {
                best = choice;
                most = rows.weights[choice];
            }
        }
        return best;
    }

    // ---- rules

    public boolean holds(int rule, int choice) throws NoSuchElementException {
        needRule(rule);
        needChoice(choice);
        rows.look();
        return (rows.fails[choice] >> rule & 1) == 0;
    }

    public int rule(int rule, int what) throws NoSuchElementException, IllegalArgumentException {
        needRule(rule);
        rows.look();
        switch (what) {
            case 0: return state.on >> rule & 1;
            case 1: return rows.countHeld(rule);
            case 2: return rows.countLeftOutBy(rule);
            case 3: return state.tokensOf(rule);
            default: throw new IllegalArgumentException();
        }
    }

    public int why(int choice) throws NoSuchElementException {
        needChoice(choice);
        rows.look();
        if (state.struck[choice]) {
            return 1;
        }
        int failing = rows.fails[choice] & state.on;
        for (int rule = 0; rule < state.rules; rule++) {
            if ((failing >> rule & 1) != 0) {
                return 100 + rule;
            }
        }
        if (rows.places[choice] != NONE) {
            return 2;
        }
        return walk.comes(state.mode) == choice ? 0 : 3;
    }

    public int against(int choice) throws NoSuchElementException {
        needChoice(choice);
        rows.look();
        return Integer.bitCount(rows.fails[choice] & state.on);
    }

    // ---- the walk

    public int next() {
        rows.look();
        return walk.comes(state.mode);
    }

    public int trail(int place) {
        if (place < 0 || place >= state.walked) {
            return NONE;
        }
        return state.trail[place];
    }

    public int swapsToEnd(int mode) throws IllegalArgumentException {
        needMode(mode);
        rows.look();
        return walk.swapsBy(mode);
    }

    private static void needMode(int mode) {
        if (mode < 0 || mode > LAST_MODE) {
            throw new IllegalArgumentException();
        }
    }

    public int bestMode() {
        rows.look();
        int best = 0;
        int fewest = walk.swapsBy(0);
        for (int mode = 1; mode <= LAST_MODE; mode++) {
            int swaps = walk.swapsBy(mode);
            if (swaps < fewest) {
                best = mode;
                fewest = swaps;
            }
        }
        return best;
    }

    public int ahead(int i) throws IllegalArgumentException {
        if (i < 0) {
            throw new IllegalArgumentException();
        }
        rows.look();
        walk.begin();
        if (i >= walk.count) {
            return NONE;
        }
        walk.go(state.mode, i);
        return walk.found(state.mode);
    }

    // ---- ways

    public int far(int choice, int other) throws NoSuchElementException {
        needChoice(choice);
        needChoice(other);
        rows.look();
        if (!rows.open[choice] || !rows.open[other]) {
            return NONE;
        }
        ways.measureFrom(other, rows.open);
        return ways.lengths[choice];
    }

    public int toward(int choice, int other) throws NoSuchElementException {
        needChoice(choice);
        needChoice(other);
        rows.look();
        if (choice == other || !rows.open[choice] || !rows.open[other]) {
            return NONE;
        }
        ways.measureFrom(other, rows.open);
        return ways.nearerThan(choice);
    }

    public int part(int part, int what) throws NoSuchElementException, IllegalArgumentException {
        rows.look();
        int parts = ways.markParts(rows.open);
        if (part < 0 || part >= parts) {
            throw new NoSuchElementException();
        }
        switch (what) {
            case 0: return ways.smallestOf(part);
            case 1: return ways.sizeOf(part);
            case 2: return ways.reachOf(part);
            default: throw new IllegalArgumentException();
        }
    }

    // ---- what would be

    public int allowedIf(int rule) throws NoSuchElementException {
        needRule(rule);
        rows.look();
        return rows.openBy(state.on ^ 1 << rule, otherRow);
    }

    public int partsIf(int rule) throws NoSuchElementException {
        needRule(rule);
        rows.look();
        rows.openBy(state.on ^ 1 << rule, otherRow);
        return ways.markParts(otherRow);
    }

    public int strictest() {
        rows.look();
        int best = NONE;
        int most = NONE;
        for (int rule = 0; rule < state.rules; rule++) {
            if ((state.on >> rule & 1) != 0) {
                int without = rows.openBy(state.on ^ 1 << rule, otherRow);
                if (without > most) {
                    best = rule;
                    most = without;
                }
            }
        }
        return best;
    }

    public int bridge() {
        rows.look();
        ways.cut(rows.open);
        int best = NONE;
        int most = NONE;
        for (int choice = 0; choice < order.choices; choice++) {
            if (rows.open[choice] && ways.pieces[choice] > most) {
                best = choice;
                most = ways.pieces[choice];
            }
        }
        return best;
    }

    // ---- measures

    public double meanWeight() {
        rows.look();
        int sum = 0;
        for (int choice = 0; choice < order.choices; choice++) {
            if (rows.open[choice]) {
                sum += rows.weights[choice];
            }
        }
        return rows.openCount == 0 ? 0 : (double) sum / (double) rows.openCount;
    }

    public float visitedShare() {
        rows.look();
        int seen = rows.openCount - rows.countLeft();
        return rows.openCount == 0 ? 1 : (float) seen / (float) rows.openCount;
    }

    // ---- operations

    public int step() {
        rows.look();
        int choice = walk.comes(state.mode);
        if (choice == NONE) {
            return -2;
        }
        past.keep(state);
        goTo(choice);
        return choice;
    }

    private void goTo(int choice) {
        state.walkTo(choice);
        rows.forgetLooks();
    }

    public int steps(int most) throws IllegalArgumentException {
        if (most < 1 || most > MOST_STEPS) {
            throw new IllegalArgumentException();
        }
        rows.look();
        past.keep(state);
        walk.begin();
        int made = 0;
        for (int i = 0; i < most && walk.count > 0; i++) {
            goTo(walk.take(walk.find(state.mode)));
            made++;
        }
        return made;
    }

    public int swap(int out, int in) throws NoSuchElementException {
        needThing(out);
        needThing(in);
        if (state.walked == 0) {
            return -2;
        }
        int choice = order.after(state.now(), out, in);
        if (choice == NONE) {
            return -3;
        }
        rows.look();
        if (!rows.open[choice]) {
            return -4;
        }
        if (rows.places[choice] != NONE) {
            return -5;
        }
        past.keep(state);
        goTo(choice);
        return choice;
    }

    public int back() {
        if (state.walked == 0) {
            return -2;
        }
        past.keep(state);
        state.walked--;
        rows.forgetLooks();
        return state.now() + 1;
    }

    public int reset() {
        past.keep(state);
        int walked = state.walked;
        state.walked = 0;
        rows.forgetLooks();
        return walked;
    }

    public int setMode(int mode) throws IllegalArgumentException {
        needMode(mode);
        past.keep(state);
        int before = state.mode;
        state.mode = mode;
        return before;
    }

    public int setWeight(int thing, int weight) throws NoSuchElementException, IllegalArgumentException {
        needThing(thing);
        if (weight < 0 || weight > MOST_WEIGHT) {
            throw new IllegalArgumentException();
        }
        past.keep(state);
        int before = state.weights[thing];
        state.weights[thing] = weight;
        rows.forgetTests();
        return before;
    }

    public int addRule(int length) throws IllegalArgumentException {
        if (length < 0 || length > buffered) {
            throw new IllegalArgumentException();
        }
        if (state.rules >= MOST_RULES) {
            return -2;
        }
        takeBuffer(length);
        boolean good = testReader.readWhole(order);
        errorAt = tokens.errorAt;
        if (!good) {
            return -10 - tokens.error;
        }
        past.keep(state);
        state.addTest(testReader.made.copied());
        rows.forgetTests();
        return state.rules - 1;
    }

    public int dropRule(int rule) throws NoSuchElementException {
        needRule(rule);
        past.keep(state);
        state.dropTest(rule);
        rows.forgetTests();
        return state.rules;
    }

    public int switchRule(int rule) throws NoSuchElementException {
        needRule(rule);
        past.keep(state);
        state.on ^= 1 << rule;
        rows.forgetLooks();
        rows.look();
        return rows.openCount;
    }

    public boolean strike(int choice, boolean out) throws NoSuchElementException {
        needChoice(choice);
        past.keep(state);
        boolean changed = state.struck[choice] != out;
        state.struck[choice] = out;
        rows.forgetLooks();
        return changed;
    }

    // ---- texts, undo

    public int many(int length, boolean allowed) throws IllegalArgumentException {
        if (length < 0 || length > MOST_ASKED || length > buffered) {
            throw new IllegalArgumentException();
        }
        takeBuffer(length);
        boolean good = testReader.readWhole(order);
        errorAt = tokens.errorAt;
        if (!good) {
            return HIDDEN - tokens.error;
        }
        rows.look();
        return rows.countTrue(testReader.made, allowed);
    }

    public int format(int choice) throws NoSuchElementException {
        needChoice(choice);
        rows.look();
        shownLength = 0;
        int things = order.bits[choice];
        for (int thing = 0; thing < order.things; thing++) {
            if ((things >> thing & 1) != 0) {
                showName(order.names[thing]);
            }
        }
        if (state.now() == choice) {
            show('*');
        }
        if (rows.places[choice] != NONE) {
            show('!');
        }
        if (!rows.open[choice]) {
            show('-');
        }
        return shownLength;
    }

    private void showName(int name) {
        if (shownLength > 0) {
            show(' ');
        }
        int letters = lettersOf(name);
        for (int i = 0; i < letters; i++) {
            show(letterAt(name, i));
        }
    }

    private void show(int sign) {
        if (shownLength < shown.length) {
            shown[shownLength] = sign;
            shownLength++;
        }
    }

    public int formattedByte(int index) {
        if (index < 0 || index >= shownLength) {
            return NONE;
        }
        return shown[index];
    }

    public int undoCount() {
        return past.held;
    }

    public int undo() {
        if (past.held == 0) {
            return NONE;
        }
        past.takeBack(state);
        rows.forgetTests();
        return past.held;
    }

    public void saveSnapshot() {
        past.saveAll(state);
    }

    public boolean restoreSnapshot() {
        if (!past.saved) {
            return false;
        }
        past.restoreAll(state);
        rows.forgetTests();
        return true;
    }

    /** The words that the grammar quotes. */
    private enum Word {
        CHOOSE("choose"), MODE("mode"), THING("thing"), RULE("rule"), STRIKE("strike"),
        OR("or"), AND("and"), NOT("not"), ALL("all"), ANY("any"), NO("none"),
        MOST("most"), LEAST("least"), WEIGHT("weight"), COUNT("number");

        final int key;

        Word(String text) {
            int made = 0;
            for (int i = 0; i < text.length(); i++) {
                made = longer(made, text.charAt(i));
            }
            key = made;
        }

        /** A word of up to six letters is a number of five bits a letter, so that two words compare as numbers. */
        static int longer(int key, int letter) {
            if (key >> (MOST_LETTERS - 1) * LETTER_BITS != 0) {
                return TOO_LONG;
            }
            return key << LETTER_BITS | letter - BEFORE_A;
        }

        static boolean isQuoted(int key) {
            for (int i = 0; i < WORDS.length; i++) {
                if (WORDS[i].key == key) {
                    return true;
                }
            }
            return false;
        }
    }

    /** The names of the things, and their choices in the order. */
    private static final class Order {
        final int[] names = new int[MOST_THINGS];
        final int[] bits = new int[MOST_CHOICES];
        final int[] numbers = new int[1 << MOST_THINGS];
        int things = 0;
        int chosen = 0;
        int choices = 0;

        void clear() {
            things = 0;
            chosen = 0;
            choices = 0;
        }

        void addThing(int name) {
            if (things < MOST_THINGS) {
                names[things] = name;
                things++;
            }
        }

        int thingOf(int name) {
            for (int thing = 0; thing < things; thing++) {
                if (names[thing] == name) {
                    return thing;
                }
            }
            return NONE;
        }

        /** Numbers the choices anew, when all things are there. */
        void lay() {
            choices = 0;
            Arrays.fill(numbers, NONE);
            list(this, things, chosen, 0, false);
        }

        // The choices of j of the first m things, each with the things above; m becomes 1 less, so it ends.
        private static void list(Order to, int m, int j, int above, boolean backwards) {
            if (j < 0 || j > m || m > MOST_THINGS) {
                return;
            }
            if (j == 0 || j == m) {
                to.put(above | (1 << j) - 1);
                return;
            }
            int last = above | 1 << m - 1;
            if (backwards) {
                list(to, m - 1, j - 1, last, false);
                list(to, m - 1, j, above, true);
            } else {
                list(to, m - 1, j, above, false);
                list(to, m - 1, j - 1, last, true);
            }
        }

        private void put(int set) {
            if (choices < bits.length && set >= 0 && set < numbers.length) {
                bits[choices] = set;
                numbers[set] = choices;
                choices++;
            }
        }

        int numberAt(int set) {
            if (set < 0 || set >= numbers.length) {
                return NONE;
            }
            return numbers[set];
        }

        int apart(int choice, int other) {
            return Integer.bitCount(bits[choice] & ~bits[other]);
        }

        int before(int choice) {
            return choice == 0 ? choices - 1 : choice - 1;
        }

        int after(int choice, int out, int in) {
            int set = bits[choice];
            if ((set >> out & 1) == 0 || (set >> in & 1) != 0) {
                return NONE;
            }
            return numberAt(set ^ 1 << out ^ 1 << in);
        }

        int lowestOnlyIn(int choice, int other) {
            int set = bits[choice] & ~bits[other];
            for (int thing = 0; thing < things; thing++) {
                if ((set >> thing & 1) != 0) {
                    return thing;
                }
            }
            return NONE;
        }

        void copyFrom(Order from) {
            things = from.things;
            chosen = from.chosen;
            choices = from.choices;
            System.arraycopy(from.names, 0, names, 0, names.length);
            System.arraycopy(from.bits, 0, bits, 0, bits.length);
            System.arraycopy(from.numbers, 0, numbers, 0, numbers.length);
        }
    }

    /** A test of choices: operations in the order in which a stack of truths takes them. */
    private static final class Test {
        final int[] kinds;
        // The things of a list as bits, or the sign of a comparison.
        final int[] marks;
        final int[] limits;
        int length = 0;
        int tokenCount = 0;

        Test(int room) {
            int places = Math.max(0, room);
            kinds = new int[places];
            marks = new int[places];
            limits = new int[places];
        }

        void clear() {
            length = 0;
            tokenCount = 0;
        }

        void add(int kind, int mark, int limit) {
            if (length < kinds.length) {
                kinds[length] = kind;
                marks[length] = mark;
                limits[length] = limit;
                length++;
            }
        }

        Test copied() {
            Test copy = new Test(length);
            for (int i = 0; i < length; i++) {
                copy.add(kinds[i], marks[i], limits[i]);
            }
            copy.tokenCount = tokenCount;
            return copy;
        }

        // At most 15 truths wait at one time (two at each of seven depths, and one), so the bits of an int hold them.
        boolean isTrue(int things, int weight, int number) {
            int stack = 0;
            for (int i = 0; i < length; i++) {
                int top = stack & 1;
                switch (kinds[i]) {
                    case NEGATE:
                        stack ^= 1;
                        break;
                    case BOTH:
                        stack = stack >> 1 & (~1 | top);
                        break;
                    case EITHER:
                        stack = stack >> 1 | top;
                        break;
                    default:
                        stack = stack << 1 | (isLeafTrue(i, things, weight, number) ? 1 : 0);
                        break;
                }
            }
            return (stack & 1) != 0;
        }

        private boolean isLeafTrue(int i, int things, int weight, int number) {
            switch (kinds[i]) {
                case AT_LEAST: return Integer.bitCount(things & marks[i]) >= limits[i];
                case AT_MOST: return Integer.bitCount(things & marks[i]) <= limits[i];
                case BY_WEIGHT: return isSo(weight, marks[i], limits[i]);
                default: return isSo(number, marks[i], limits[i]);
            }
        }

        private static boolean isSo(int value, int sign, int limit) {
            if (sign == '<') {
                return value < limit;
            }
            return sign == '>' ? value > limit : value == limit;
        }
    }

    /** All that undoing restores. NOW, VISITED, the steps and the swaps follow from the trail. */
    private static final class State {
        final int[] weights = new int[MOST_THINGS];
        final boolean[] struck = new boolean[MOST_CHOICES];
        final Test[] tests = new Test[MOST_RULES];
        final int[] trail = new int[MOST_CHOICES];
        int rules = 0;
        int on = 0;
        int mode = 0;
        int walked = 0;

        void clear() {
            for (int i = 0; i < struck.length; i++) {
                struck[i] = false;
            }
            rules = 0;
            on = 0;
            mode = 0;
            walked = 0;
        }

        int now() {
            return walked > 0 && walked <= trail.length ? trail[walked - 1] : NONE;
        }

        void walkTo(int choice) {
            if (walked < trail.length) {
                trail[walked] = choice;
                walked++;
            }
        }

        int countStruck() {
            int count = 0;
            for (int i = 0; i < struck.length; i++) {
                if (struck[i]) {
                    count++;
                }
            }
            return count;
        }

        void addTest(Test test) {
            if (rules < tests.length) {
                tests[rules] = test;
                on |= 1 << rules;
                rules++;
            }
        }

        void dropTest(int rule) {
            int below = on & (1 << rule) - 1;
            int above = on >> rule + 1;
            on = below | above << rule;
            for (int i = rule; i + 1 < rules; i++) {
                tests[i] = tests[i + 1];
            }
            rules--;
        }

        int tokensOf(int rule) {
            Test test = tests[rule];
            return test == null ? 0 : test.tokenCount;
        }

        int failing(int things, int weight, int number) {
            int fails = 0;
            for (int rule = 0; rule < rules; rule++) {
                Test test = tests[rule];
                if (test != null && !test.isTrue(things, weight, number)) {
                    fails |= 1 << rule;
                }
            }
            return fails;
        }

        void copyFrom(State from) {
            rules = from.rules;
            on = from.on;
            mode = from.mode;
            walked = from.walked;
            System.arraycopy(from.weights, 0, weights, 0, weights.length);
            System.arraycopy(from.struck, 0, struck, 0, struck.length);
            System.arraycopy(from.trail, 0, trail, 0, trail.length);
            for (int i = 0; i < tests.length; i++) {
                tests[i] = from.tests[i];
            }
        }
    }

    /** The states before the last operations, and the snapshot. */
    private static final class Past {
        final State[] kept = new State[MOST_UNDONE];
        final State snapshot = new State();
        boolean saved = false;
        int held = 0;
        private int last = 0;

        Past() {
            for (int i = 0; i < kept.length; i++) {
                kept[i] = new State();
            }
        }

        void keep(State state) {
            last = (last + 1) % MOST_UNDONE;
            kept[last].copyFrom(state);
            held = Math.min(held + 1, MOST_UNDONE);
        }

        void takeBack(State state) {
            if (held > 0) {
                state.copyFrom(kept[last]);
                last = (last + MOST_UNDONE - 1) % MOST_UNDONE;
                held--;
            }
        }

        void saveAll(State state) {
            snapshot.copyFrom(state);
            saved = true;
        }

        void restoreAll(State state) {
            state.copyFrom(snapshot);
            held = 0;
        }

        void forget() {
            held = 0;
            saved = false;
        }
    }

    /** What follows for each choice from the state; found again only when something of it has changed. */
    private static final class Rows {
        final int[] weights = new int[MOST_CHOICES];
        // The rules that do not hold, on or off, as bits.
        final int[] fails = new int[MOST_CHOICES];
        final int[] places = new int[MOST_CHOICES];
        final boolean[] open = new boolean[MOST_CHOICES];
        int openCount = 0;
        private final Order order;
        private final State state;
        private boolean tested = false;
        private boolean looked = false;

        Rows(Order order, State state) {
            this.order = order;
            this.state = state;
        }

        void forgetTests() {
            tested = false;
            looked = false;
        }

        void forgetLooks() {
            looked = false;
        }

        void look() {
            if (!tested) {
                tryTests();
                tested = true;
            }
            if (!looked) {
                openCount = openBy(state.on, open);
                Arrays.fill(places, NONE);
                for (int place = 0; place < state.walked; place++) {
                    int choice = state.trail[place];
                    if (choice >= 0 && choice < places.length) {
                        places[choice] = place;
                    }
                }
                looked = true;
            }
        }

        private void tryTests() {
            for (int choice = 0; choice < order.choices; choice++) {
                int things = order.bits[choice];
                int weight = 0;
                for (int thing = 0; thing < order.things; thing++) {
                    weight += (things >> thing & 1) * state.weights[thing];
                }
                weights[choice] = weight;
                fails[choice] = state.failing(things, weight, choice);
            }
        }

        /** Marks the choices that are allowed if the rules of these bits are on, and counts them. */
        int openBy(int on, boolean[] row) {
            int count = 0;
            for (int choice = 0; choice < order.choices && choice < row.length; choice++) {
                row[choice] = !state.struck[choice] && (fails[choice] & on) == 0;
                if (row[choice]) {
                    count++;
                }
            }
            return count;
        }

        int countLeft() {
            int count = 0;
            for (int choice = 0; choice < order.choices; choice++) {
                if (open[choice] && places[choice] == NONE) {
                    count++;
                }
            }
            return count;
        }

        int countHeld(int rule) {
            int count = 0;
            for (int choice = 0; choice < order.choices; choice++) {
                if ((fails[choice] >> rule & 1) == 0) {
                    count++;
                }
            }
            return count;
        }

        int countLeftOutBy(int rule) {
            int count = 0;
            for (int choice = 0; choice < order.choices; choice++) {
                if (!state.struck[choice] && (fails[choice] & state.on) == 1 << rule) {
                    count++;
                }
            }
            return count;
        }

        int countTrue(Test test, boolean openAlone) {
            int count = 0;
            for (int choice = 0; choice < order.choices; choice++) {
                if ((open[choice] || !openAlone) && test.isTrue(order.bits[choice], weights[choice], choice)) {
                    count++;
                }
            }
            return count;
        }
    }

    /** The walk from now on, as it would be: the choices that are left, by number. */
    private static final class Walk {
        final int[] left = new int[MOST_CHOICES];
        int count = 0;
        private int now = NONE;
        private int swaps = 0;
        private final Order order;
        private final State state;
        private final Rows rows;

        Walk(Order order, State state, Rows rows) {
            this.order = order;
            this.state = state;
            this.rows = rows;
        }

        void begin() {
            now = state.now();
            swaps = 0;
            count = 0;
            for (int choice = 0; choice < order.choices; choice++) {
                if (rows.open[choice] && rows.places[choice] == NONE) {
                    left[count] = choice;
                    count++;
                }
            }
        }

        int comes(int mode) {
            begin();
            return found(mode);
        }

        int swapsBy(int mode) {
            begin();
            go(mode, count);
            return swaps;
        }

        void go(int mode, int most) {
            for (int i = 0; i < most && count > 0; i++) {
                take(find(mode));
            }
        }

        int found(int mode) {
            return count == 0 ? NONE : left[find(mode)];
        }

        /** The place of the next choice among those that are left; 0 if none is left. */
        int find(int mode) {
            return mode == 0 ? findAbove() : findNear(mode);
        }

        private int findAbove() {
            for (int i = 0; i < count; i++) {
                if (left[i] > now) {
                    return i;
                }
            }
            return 0;
        }

        private int findNear(int mode) {
            int best = 0;
            int least = 0;
            for (int i = 0; i < count; i++) {
                int apart = distanceTo(left[i]);
                // A distance is at most 9, so that the weight counts first.
                int cost = mode == LAST_MODE ? rows.weights[left[i]] * 16 + apart : apart;
                if (i == 0 || cost < least) {
                    best = i;
                    least = cost;
                }
            }
            return best;
        }

        private int distanceTo(int choice) {
            return now == NONE ? 0 : order.apart(now, choice);
        }

        int take(int place) {
            if (place < 0 || place >= count) {
                return NONE;
            }
            int choice = left[place];
            swaps += distanceTo(choice);
            now = choice;
            count--;
            System.arraycopy(left, place + 1, left, place, count - place);
            return choice;
        }
    }

    /** Ways through the choices that a row marks as open. */
    private static final class Ways {
        final int[] parts = new int[MOST_CHOICES];
        final int[] lengths = new int[MOST_CHOICES];
        final int[] pieces = new int[MOST_CHOICES];
        private final int[] near = new int[MOST_CHOICES * MOST_NEIGHBOURS];
        private final int[] queue = new int[MOST_CHOICES];
        private final int[] entered = new int[MOST_CHOICES];
        private final int[] lows = new int[MOST_CHOICES];
        private final int[] parents = new int[MOST_CHOICES];
        private final int[] tried = new int[MOST_CHOICES];
        private final Order order;
        private int degree = 0;
        private int time = 0;
        private boolean known = false;

        Ways(Order order) {
            this.order = order;
        }

        void forget() {
            known = false;
        }

        private void learn() {
            if (known) {
                return;
            }
            degree = order.chosen * (order.things - order.chosen);
            for (int choice = 0; choice < order.choices; choice++) {
                learnFrom(choice);
            }
            known = true;
        }

        private void learnFrom(int choice) {
            int put = choice * degree;
            for (int out = 0; out < order.things; out++) {
                for (int in = 0; in < order.things; in++) {
                    int other = order.after(choice, out, in);
                    if (other != NONE && put < near.length) {
                        near[put] = other;
                        put++;
                    }
                }
            }
        }

        int countNeighbours(int choice, boolean[] open) {
            if (!open[choice]) {
                return 0;
            }
            learn();
            int count = 0;
            for (int i = 0; i < degree; i++) {
                if (open[near[choice * degree + i]]) {
                    count++;
                }
            }
            return count;
        }

        /** Finds the part of each choice, and its length of way from the smallest one of the part. */
        int markParts(boolean[] open) {
            learn();
            Arrays.fill(parts, NONE);
            Arrays.fill(lengths, NONE);
            int count = 0;
            for (int choice = 0; choice < order.choices; choice++) {
                if (open[choice] && parts[choice] == NONE) {
                    spread(choice, count, open);
                    count++;
                }
            }
            return count;
        }

        void measureFrom(int choice, boolean[] open) {
            learn();
            Arrays.fill(lengths, NONE);
            spread(choice, 0, open);
        }

        private void spread(int from, int part, boolean[] open) {
            int filled = 1;
            queue[0] = from;
            lengths[from] = 0;
            parts[from] = part;
            for (int taken = 0; taken < filled; taken++) {
                int choice = queue[taken];
                for (int i = 0; i < degree; i++) {
                    int other = near[choice * degree + i];
                    if (open[other] && lengths[other] == NONE && filled < queue.length) {
                        lengths[other] = lengths[choice] + 1;
                        parts[other] = part;
                        queue[filled] = other;
                        filled++;
                    }
                }
            }
        }

        /** The smallest neighbour with a shorter way to where the lengths are measured from. */
        int nearerThan(int choice) {
            int best = NONE;
            for (int i = 0; i < degree; i++) {
                int other = near[choice * degree + i];
                boolean nearer = lengths[other] != NONE && lengths[other] < lengths[choice];
                if (nearer && (best == NONE || other < best)) {
                    best = other;
                }
            }
            return best;
        }

        int smallestOf(int part) {
            for (int choice = 0; choice < order.choices; choice++) {
                if (parts[choice] == part) {
                    return choice;
                }
            }
            return NONE;
        }

        int sizeOf(int part) {
            int count = 0;
            for (int choice = 0; choice < order.choices; choice++) {
                if (parts[choice] == part) {
                    count++;
                }
            }
            return count;
        }

        int reachOf(int part) {
            int reach = 0;
            for (int choice = 0; choice < order.choices; choice++) {
                if (parts[choice] == part) {
                    reach = Math.max(reach, lengths[choice]);
                }
            }
            return reach;
        }

        /**
         * Finds in how many pieces its part would be without each choice: one walk into the depth,
         * in which a branch that leads nowhere above a choice is a piece of its own without it.
         */
        void cut(boolean[] open) {
            learn();
            Arrays.fill(entered, NONE);
            time = 0;
            for (int choice = 0; choice < order.choices; choice++) {
                if (open[choice] && entered[choice] == NONE) {
                    cutPart(choice, open);
                }
            }
        }

        private void cutPart(int root, boolean[] open) {
            enter(root, NONE);
            int choice = root;
            // Each turn tries one neighbour or leaves one choice.
            int turns = MOST_CHOICES * (MOST_NEIGHBOURS + 1);
            for (int i = 0; i < turns && choice != NONE; i++) {
                if (tried[choice] >= degree) {
                    leave(choice);
                    choice = parents[choice];
                } else {
                    int other = near[choice * degree + tried[choice]];
                    tried[choice]++;
                    if (open[other] && entered[other] == NONE) {
                        enter(other, choice);
                        choice = other;
                    } else if (open[other]) {
                        lows[choice] = Math.min(lows[choice], entered[other]);
                    }
                }
            }
        }

        private void enter(int choice, int parent) {
            entered[choice] = time;
            lows[choice] = time;
            parents[choice] = parent;
            tried[choice] = 0;
            pieces[choice] = parent == NONE ? 0 : 1;
            time++;
        }

        private void leave(int choice) {
            int parent = parents[choice];
            if (parent == NONE) {
                return;
            }
            lows[parent] = Math.min(lows[parent], lows[choice]);
            if (lows[choice] >= entered[parent]) {
                pieces[parent]++;
            }
        }
    }

    /** The tokens of a text, and the first error on it. */
    private static final class Tokens {
        int error = 0;
        int errorAt = NONE;
        int at = 0;
        // The kind and the value of the token at which the reading is.
        int kind = END;
        int value = 0;
        private final int[] kinds = new int[MOST_BYTES + 1];
        private final int[] starts = new int[MOST_BYTES + 1];
        private final int[] values = new int[MOST_BYTES + 1];
        private int count = 0;

        void split(byte[] bytes, int length) {
            error = 0;
            errorAt = NONE;
            // The first pass goes to the first token.
            at = -1;
            count = 0;
            int before = BLANK;
            for (int i = 0; i < length && i < MOST_BYTES && i < bytes.length; i++) {
                int sort = kindOf(bytes[i]);
                boolean longer = sort == before && (sort == NAME || sort == NUMBER);
                if (sort != BLANK) {
                    put(sort, i, bytes[i], longer);
                }
                before = sort;
            }
            put(END, length, 0, false);
            markKeywords();
            pass();
        }

        private static int kindOf(int sign) {
            if (sign == ' ' || sign == '\n') {
                return BLANK;
            }
            if (sign >= 'a' && sign <= 'z') {
                return NAME;
            }
            if (sign >= '0' && sign <= '9') {
                return NUMBER;
            }
            boolean known = sign == ';' || sign == '(' || sign == ')' || sign == '<' || sign == '=' || sign == '>';
            return known ? SIGN : INVALID;
        }

        private void put(int sort, int start, int sign, boolean longer) {
            if (!longer && count < kinds.length) {
                kinds[count] = sort;
                starts[count] = start;
                values[count] = sort == SIGN ? sign : 0;
                count++;
            }
            int last = count - 1;
            if (last < 0) {
                return;
            }
            if (sort == NAME) {
                values[last] = Word.longer(values[last], sign);
            } else if (sort == NUMBER) {
                values[last] = Math.min(values[last] * 10 + sign - '0', TOO_GREAT);
            }
        }

        private void markKeywords() {
            for (int i = 0; i < count; i++) {
                if (kinds[i] == NAME && Word.isQuoted(values[i])) {
                    kinds[i] = KEYWORD;
                }
            }
        }

        void pass() {
            at++;
            boolean there = at >= 0 && at < count;
            kind = there ? kinds[at] : END;
            value = there ? values[at] : 0;
        }

        boolean fail(int code) {
            error = code;
            errorAt = at >= 0 && at < count ? starts[at] : 0;
            return false;
        }

        boolean isWord(Word word) {
            return kind == KEYWORD && value == word.key;
        }

        boolean isSign(int sign) {
            return kind == SIGN && value == sign;
        }

        boolean skipsWord(Word word) {
            if (!isWord(word)) {
                return false;
            }
            pass();
            return true;
        }

        boolean needsSign(int sign) {
            if (!isSign(sign)) {
                return fail(NOT_ALLOWED_HERE);
            }
            pass();
            return true;
        }

        /** The number that must come now; NONE, with an error, if it does not. */
        int takeNumber(int least, int most) {
            int number = value;
            if (kind != NUMBER) {
                fail(NOT_ALLOWED_HERE);
                return NONE;
            }
            if (number < least || number > most) {
                fail(OUT_OF_RANGE);
                return NONE;
            }
            pass();
            return number;
        }
    }

    /** Reads tests. */
    private static final class TestReader {
        final Test made = new Test(MOST_BYTES);
        private final Tokens tokens;
        private Order order;
        private int from = 0;

        TestReader(Tokens tokens, Order order) {
            this.tokens = tokens;
            this.order = order;
        }

        /** Reads a test that is the whole text. */
        boolean readWhole(Order whose) {
            begin(whose);
            return readTest(0) && (tokens.kind == END || tokens.fail(NOT_ALLOWED_HERE));
        }

        /** Reads a test and the sign behind it. */
        boolean readUpTo(int sign, Order whose) {
            begin(whose);
            return readTest(0) && tokens.needsSign(sign);
        }

        private void begin(Order whose) {
            order = whose;
            from = tokens.at;
            made.clear();
        }

        // A round of a loop passes a token at least, and a text has no more than MOST_BYTES.
        private boolean readTest(int open) {
            for (int conjunctions = 0; conjunctions < MOST_BYTES; conjunctions++) {
                for (int factors = 0; factors < MOST_BYTES; factors++) {
                    if (!readFactor(open)) {
                        return false;
                    }
                    if (factors > 0) {
                        made.add(BOTH, 0, 0);
                    }
                    if (!tokens.skipsWord(Word.AND)) {
                        break;
                    }
                }
                if (conjunctions > 0) {
                    made.add(EITHER, 0, 0);
                }
                if (!tokens.skipsWord(Word.OR)) {
                    break;
                }
            }
            made.tokenCount = tokens.at - from;
            return true;
        }

        private boolean readFactor(int open) {
            boolean negates = tokens.isWord(Word.NOT);
            if (negates || tokens.isSign('(')) {
                if (open >= MOST_OPEN) {
                    return tokens.fail(TOO_DEEP);
                }
                tokens.pass();
                return negates ? readNegated(open + 1) : readTest(open + 1) && tokens.needsSign(')');
            }
            if (tokens.kind != KEYWORD) {
                return readName();
            }
            if (tokens.isWord(Word.WEIGHT) || tokens.isWord(Word.COUNT)) {
                return readComparison();
            }
            return readList();
        }

        private boolean readNegated(int open) {
            if (!readFactor(open)) {
                return false;
            }
            made.add(NEGATE, 0, 0);
            return true;
        }

        private boolean readName() {
            int thing = takeThing();
            if (thing == NONE) {
                return false;
            }
            made.add(AT_LEAST, 1 << thing, 1);
            return true;
        }

        private boolean readComparison() {
            int kind = tokens.isWord(Word.WEIGHT) ? BY_WEIGHT : BY_NUMBER;
            tokens.pass();
            int sign = tokens.value;
            if (!tokens.isSign('<') && !tokens.isSign('=') && !tokens.isSign('>')) {
                return tokens.fail(NOT_ALLOWED_HERE);
            }
            tokens.pass();
            int limit = tokens.takeNumber(0, MOST_COMPARED);
            if (limit == NONE) {
                return false;
            }
            made.add(kind, sign, limit);
            return true;
        }

        private boolean readList() {
            boolean all = tokens.isWord(Word.ALL);
            boolean most = tokens.isWord(Word.MOST);
            boolean none = tokens.isWord(Word.NO);
            boolean least = tokens.isWord(Word.LEAST);
            if (!all && !most && !none && !least && !tokens.isWord(Word.ANY)) {
                return tokens.fail(NOT_ALLOWED_HERE);
            }
            tokens.pass();
            // 'any' is at least 1 of the things, 'none' at most 0.
            int limit = none ? 0 : 1;
            if (most || least) {
                limit = tokens.takeNumber(0, MOST_THINGS);
            }
            if (limit == NONE || !tokens.needsSign('(')) {
                return false;
            }
            int things = 0;
            for (int i = 0; i < MOST_BYTES && (i == 0 || !tokens.isSign(')')); i++) {
                int thing = takeThing();
                if (thing == NONE) {
                    return false;
                }
                things |= 1 << thing;
            }
            made.add(most || none ? AT_MOST : AT_LEAST, things, all ? Integer.bitCount(things) : limit);
            return tokens.needsSign(')');
        }

        private int takeThing() {
            if (tokens.kind != NAME) {
                tokens.fail(NOT_ALLOWED_HERE);
                return NONE;
            }
            int thing = order.thingOf(tokens.value);
            if (thing == NONE) {
                tokens.fail(NO_THING);
                return NONE;
            }
            tokens.pass();
            return thing;
        }
    }

    /** Reads whole texts, into an order and a state of its own, so that an error leaves the object's alone. */
    private static final class TextReader {
        final Order order = new Order();
        final State state = new State();
        private final Tokens tokens;
        private final TestReader testReader;

        TextReader(Tokens tokens, TestReader testReader) {
            this.tokens = tokens;
            this.testReader = testReader;
        }

        boolean read() {
            order.clear();
            state.clear();
            if (!readHead() || !readThings()) {
                return false;
            }
            // Each round passes a token at least.
            for (int i = 0; i < MOST_BYTES && tokens.kind != END; i++) {
                boolean isRule = tokens.isWord(Word.RULE);
                boolean good = isRule ? opensRule() && testReader.readUpTo(';', order) : readStrike();
                if (!good) {
                    return false;
                }
                if (isRule) {
                    state.addTest(testReader.made.copied());
                }
            }
            return true;
        }

        private boolean readHead() {
            if (!tokens.skipsWord(Word.CHOOSE)) {
                return tokens.fail(NOT_ALLOWED_HERE);
            }
            order.chosen = tokens.takeNumber(1, MOST_CHOSEN);
            if (order.chosen == NONE) {
                return false;
            }
            if (tokens.skipsWord(Word.MODE)) {
                state.mode = tokens.takeNumber(0, LAST_MODE);
                if (state.mode == NONE) {
                    return false;
                }
            }
            return tokens.needsSign(';');
        }

        private boolean readThings() {
            if (!tokens.isWord(Word.THING)) {
                return tokens.fail(NOT_ALLOWED_HERE);
            }
            for (int i = 0; i < MOST_THINGS && tokens.isWord(Word.THING); i++) {
                if (!readThing()) {
                    return false;
                }
            }
            if (tokens.isWord(Word.THING)) {
                return tokens.fail(TOO_MANY);
            }
            if (tokens.kind != END && !tokens.isWord(Word.RULE) && !tokens.isWord(Word.STRIKE)) {
                return tokens.fail(NOT_ALLOWED_HERE);
            }
            if (order.things <= order.chosen) {
                return tokens.fail(TOO_FEW);
            }
            order.lay();
            return true;
        }

        private boolean readThing() {
            tokens.pass();
            int kind = tokens.kind;
            int name = tokens.value;
            if (kind != NAME && kind != KEYWORD) {
                return tokens.fail(NOT_ALLOWED_HERE);
            }
            if (kind == KEYWORD || name == TOO_LONG || order.thingOf(name) != NONE) {
                return tokens.fail(BAD_NAME);
            }
            tokens.pass();
            int weight = tokens.takeNumber(0, MOST_WEIGHT);
            if (weight == NONE || order.things >= MOST_THINGS) {
                return false;
            }
            state.weights[order.things] = weight;
            order.addThing(name);
            return tokens.needsSign(';');
        }

        private boolean opensRule() {
            if (state.rules >= MOST_RULES) {
                return tokens.fail(TOO_MANY);
            }
            tokens.pass();
            return true;
        }

        private boolean readStrike() {
            if (!tokens.skipsWord(Word.STRIKE)) {
                return tokens.fail(NOT_ALLOWED_HERE);
            }
            int things = 0;
            for (int i = 0; i <= MOST_THINGS; i++) {
                if (i > 0 && tokens.isSign(';')) {
                    break;
                }
                int thing = takeStruck(things);
                if (thing == NONE) {
                    return false;
                }
                things |= 1 << thing;
            }
            int choice = order.numberAt(things);
            if (choice == NONE || state.struck[choice]) {
                return tokens.fail(TOO_FEW);
            }
            state.struck[choice] = true;
            return tokens.needsSign(';');
        }

        private int takeStruck(int before) {
            int kind = tokens.kind;
            if (kind != NAME && kind != KEYWORD) {
                tokens.fail(NOT_ALLOWED_HERE);
                return NONE;
            }
            int thing = order.thingOf(tokens.value);
            if (thing == NONE || (before >> thing & 1) != 0) {
                tokens.fail(NO_THING);
                return NONE;
            }
            if (Integer.bitCount(before) >= order.chosen) {
                tokens.fail(TOO_MANY);
                return NONE;
            }
            tokens.pass();
            return thing;
        }
    }
}
