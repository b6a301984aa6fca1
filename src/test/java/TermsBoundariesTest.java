import java.util.Arrays;

/** A test for each boundary that the document names among its terms: things, choices, rules, the walk, ways. */
public final class TermsBoundariesTest extends Checks {
    public static void main(String[] args) {
        sentence("There are N things (2 to 10), numbered from 0, each with a name and a weight (0 to 99).",
            TermsBoundariesTest::things);
        sentence("A choice is a set of K of them (1 to N - 1), told as bits (bit t for the thing t).",
            TermsBoundariesTest::chosen);
        sentence("Its weight is the sum of the weights of its things.", TermsBoundariesTest::weights);
        sentence("The distance of two choices is how many things of the one are not in the other one.",
            TermsBoundariesTest::distances);
        sentence("the empty choice alone, if j is 0; all m things alone, if j is m;", TermsBoundariesTest::ordersAtTheEdge);
        sentence("Choices are numbered from 0 in the order of the choices of K things out of all N.",
            TermsBoundariesTest::counts);
        sentence("(The distance of two that follow each other is 1, and so is that of the last one and the first one.)",
            TermsBoundariesTest::round);
        sentence("There are at most 10 rules, numbered from 0 in the order in which they came", TermsBoundariesTest::tenRules);
        sentence("(behind one that is dropped the numbers become 1 less)", TermsBoundariesTest::numbersBehindADroppedOne);
        sentence("A rule is a test of choices and is on or off (on at first).", TermsBoundariesTest::onAtFirst);
        sentence("A choice is allowed if all rules that are on hold for it, and it is not struck out.",
            TermsBoundariesTest::allowedOnes);
        sentence("NOW is a choice, or NONE (at first). Choices can be VISITED (none at first). MODE is 0 to 2.",
            TermsBoundariesTest::walkAtFirst);
        sentence("by MODE 0 the one with the smallest number above that of NOW, or, if there is none or NOW is NONE, with the "
            + "smallest number;", TermsBoundariesTest::mode0);
        sentence("by MODE 1 the one with the smallest distance from NOW (if NOW is NONE all are alike), of several the smallest "
            + "number;", TermsBoundariesTest::mode1);
        sentence("by MODE 2 the one with the smallest weight, of several the one with the smallest distance from NOW "
            + "(likewise), of several the smallest number.", TermsBoundariesTest::mode2);
        sentence("the steps become 1 more, and the swaps grow by its distance from the choice that was NOW (by 0 if that was "
            + "NONE).", TermsBoundariesTest::swapsOfSteps);
        sentence("The trail are all choices to which steps and swaps by hand went, in order, without those that were taken "
            + "back;", TermsBoundariesTest::trailWithoutThoseTakenBack);
        sentence("it has each choice at most once.", TermsBoundariesTest::trailOfAll);
        sentence("Two allowed choices are neighbours if their distance is 1.", TermsBoundariesTest::neighbours);
        sentence("A way from an allowed choice to another one goes from neighbour to neighbour; its length is the number of its "
            + "swaps.", TermsBoundariesTest::ways);
        sentence("The part of an allowed choice are all allowed choices to which there is a way (itself, too).",
            TermsBoundariesTest::parts);
        sentence("Parts are numbered from 0 in the order of the smallest numbers of their choices.",
            TermsBoundariesTest::numbersOfParts);
        finish();
    }

    // ---- things, choices, order

    private static void things() {
        for (int n : new int[] {2, 10}) {
            SwapChoices x = of(text(1, n));
            due("size(0) of " + n, x.size(0), n);
            due("the first one's weight", x.weight(0), 1);
            due("the last one's weight", x.weight(n - 1), n);
            due("the last one's name", x.nameByte(n - 1, 0), 'a' + n - 1);
            dueThrow("weight(" + n + ")", NO_SUCH, () -> x.weight(n));
        }
        dueError(text(1, 1), 6, text(1, 1).length());
        dueError(text(1, 11), 5, text(1, 10).length());
        SwapChoices weights = of("choose 1;thing a 0;thing b 99;");
        due("a weight of 0", weights.weight(0), 0);
        due("a weight of 99", weights.weight(1), 99);
        dueError("choose 1;thing a 0;thing b 100;", 2, 27);
    }

    private static void chosen() {
        for (int n = 2; n <= 10; n++) {
            SwapChoices least = of(text(1, n));
            due("choices of 1 of " + n, least.size(2), n);
            due("bits of the last thing alone", least.numberOf(1 << n - 1), n - 1);
            SwapChoices most = of(text(n - 1, n));
            due("K of " + (n - 1) + " of " + n, most.size(1), n - 1);
            due("choices of " + (n - 1) + " of " + n, most.size(2), n);
            due("bits of all but the last thing", most.choice(0, 0), (1 << n - 1) - 1);
            if (n < 10) dueError(text(n, n), 6, text(n, n).length());
            dueError(text(0, n), 2, 7);
        }
        dueError(text(10, 10), 2, 7);
    }

    private static void weights() {
        SwapChoices heavy = of("choose 9;thing a 99;thing b 99;thing c 99;thing d 99;thing e 99;thing f 99;thing g 99;thing h 99;"
            + "thing i 99;thing j 0;");
        due("the greatest weight", heavy.choice(0, 1), 891);
        due("a weight with a 0", heavy.choice(1, 1), 792);
        due("the smallest weight", of("choose 1;thing a 0;thing b 7;").choice(0, 1), 0);
    }

    private static void distances() {
        SwapChoices five = of(text(5, 10));
        int low = five.numberOf(31);
        int high = five.numberOf(31 << 5);
        due("the greatest distance", five.distance(low, high), 5);
        due("the greatest distance, back", five.distance(high, low), 5);
        due("distance to itself", five.distance(high, high), 0);
        SwapChoices nine = of(text(9, 10));
        due("distance of 9 out of 10", nine.distance(0, 5), 1);
        SwapChoices one = of(text(1, 2));
        due("distance of 1 out of 2", one.distance(0, 1), 1);
        SwapChoices seven = of(text(7, 10));
        due("distance of 7 out of 10", seven.distance(seven.numberOf(127), seven.numberOf(0x3f8)), 3);
    }

    private static String orderOf(int k, int n) {
        SwapChoices x = of(text(k, n));
        int choices = x.size(2);
        StringBuilder order = new StringBuilder();
        for (int c = 0; c < choices; c++) {
            int bits = x.choice(c, 0);
            for (int t = 0; t < n; t++) if ((bits >> t & 1) != 0) order.append((char) ('a' + t));
            order.append(' ');
        }
        return order.toString().trim();
    }

    private static void ordersAtTheEdge() {
        due("1 of 2", orderOf(1, 2), "a b");
        due("1 of 3", orderOf(1, 3), "a b c");
        due("1 of 10", orderOf(1, 10), "a b c d e f g h i j");
        due("2 of 3", orderOf(2, 3), "ab bc ac");
        due("3 of 4", orderOf(3, 4), "abc acd bcd abd");
        due("2 of 4", orderOf(2, 4), "ab bc ac cd bd ad");
        due("3 of 5", orderOf(3, 5), "abc acd bcd abd ade bde cde ace bce abe");
        // Each one lacks one thing: j, h, f, d, b, a, c, e, g, i.
        due("9 of 10", orderOf(9, 10), "abcdefghi abcdefgij abcdeghij abcefghij acdefghij bcdefghij abdefghij abcdfghij abcdefhij "
            + "abcdefghj");
    }

    private static int ways(int k, int n) {
        int ways = 1;
        for (int i = 1; i <= k; i++) ways = ways * (n - k + i) / i;
        return ways;
    }

    private static void counts() {
        for (int n = 2; n <= 10; n++) {
            for (int k = 1; k < n; k++) {
                SwapChoices x = of(text(k, n));
                int choices = ways(k, n);
                due("choices of " + k + " of " + n, x.size(2), choices);
                due("the number of the first one", x.numberOf(x.choice(0, 0)), 0);
                due("the number of the last one", x.numberOf(x.choice(choices - 1, 0)), choices - 1);
                dueThrow("one behind the last one", NO_SUCH, () -> x.choice(choices, 0));
                dueThrow("one before the first one", NO_SUCH, () -> x.choice(-1, 0));
            }
        }
    }

    private static void round() {
        for (int n = 2; n <= 10; n++) {
            for (int k = 1; k < n; k++) {
                SwapChoices x = of(text(k, n));
                int choices = ways(k, n);
                int ones = 0;
                for (int c = 0; c + 1 < choices; c++) if (x.distance(c, c + 1) == 1) ones++;
                due("distances of 1 in " + k + " of " + n, ones, choices - 1);
                due("from the last one to the first one", x.distance(choices - 1, 0), 1);
                due("from the first one to the last one", x.distance(0, choices - 1), 1);
            }
        }
    }

    // ---- rules

    private static final String TEN_RULES = "rule number=0;rule number=1;rule number=2;rule number=3;rule number=4;rule number=5;"
        + "rule number=6;rule number=7;rule number=8;rule number=9;";

    /** For which choice each rule holds, and which are on. */
    private static String rulesOf(SwapChoices x) {
        StringBuilder told = new StringBuilder();
        int rules = x.size(6);
        for (int r = 0; r < rules; r++) {
            for (int c = 0; c < 10; c++) if (x.holds(r, c)) told.append(c);
            told.append(x.rule(r, 0) == 1 ? "+" : "-");
        }
        return told.toString();
    }

    private static void tenRules() {
        SwapChoices read = of(text(1, 10) + TEN_RULES);
        due("ten rules of a text", rulesOf(read), "0+1+2+3+4+5+6+7+8+9+");
        due("an 11th one by addRule", add(read, "a"), -2);
        due("size(6)", read.size(6), 10);
        String eleven = text(1, 10) + TEN_RULES + "rule a;";
        dueError(eleven, 5, eleven.length() - 7);
        SwapChoices added = of(text(1, 10));
        for (int r = 0; r < 10; r++) due("the number by addRule", add(added, "number = " + r), r);
        due("ten rules by addRule", rulesOf(added), "0+1+2+3+4+5+6+7+8+9+");
        due("an 11th one by addRule", add(added, "a"), -2);
        SwapChoices both = of(text(1, 10) + TEN_RULES.substring(0, TEN_RULES.lastIndexOf("rule")));
        due("the tenth one by addRule behind nine of a text", add(both, "a"), 9);
    }

    private static SwapChoices tenSwitched() {
        SwapChoices x = of(text(1, 10) + TEN_RULES);
        for (int r : new int[] {0, 2, 3, 6, 9}) x.switchRule(r);
        return x;
    }

    private static void numbersBehindADroppedOne() {
        due("before", rulesOf(tenSwitched()), "0-1+2-3-4+5+6-7+8+9-");
        SwapChoices first = tenSwitched();
        first.dropRule(0);
        due("without the first one", rulesOf(first), "1+2-3-4+5+6-7+8+9-");
        SwapChoices fifth = tenSwitched();
        fifth.dropRule(4);
        due("without the one with number 4", rulesOf(fifth), "0-1+2-3-5+6-7+8+9-");
        SwapChoices last = tenSwitched();
        last.dropRule(9);
        due("without the last one", rulesOf(last), "0-1+2-3-4+5+6-7+8+");
        due("addRule behind it", add(last, "number = 9"), 9);
        due("all then", rulesOf(last), "0-1+2-3-4+5+6-7+8+9+");
        SwapChoices none = of(text(1, 10) + "rule number = 5;");
        none.dropRule(0);
        due("the only one", rulesOf(none), "");
        dueThrow("a rule when the only one is dropped", NO_SUCH, () -> none.rule(0, 0));
    }

    private static void onAtFirst() {
        SwapChoices x = of(FOUR + "rule a;");
        due("of a text", x.rule(0, 0), 1);
        add(x, "b");
        due("by addRule", x.rule(1, 0), 1);
        x.switchRule(1);
        x.dropRule(1);
        add(x, "b");
        due("by addRule with the number of one that was off", x.rule(1, 0), 1);
        x.switchRule(0);
        load(x, FOUR + "rule a;");
        due("of a text behind one that was off", x.rule(0, 0), 1);
        x.dropRule(0);
        due("size(7) without rules", x.size(7), 0);
    }

    private static void allowedOnes() {
        due("without rules", allowed(of(FOUR)), "012345");
        SwapChoices off = of(FOUR + "rule a;rule b;");
        due("when both hold", allowed(off), "0");
        off.switchRule(0);
        due("when one is off", allowed(off), "014");
        off.switchRule(1);
        due("when both are off", allowed(off), "012345");
        off.strike(0, true);
        off.strike(5, true);
        due("when two are struck out", allowed(off), "1234");
        off.switchRule(0);
        due("by both", allowed(off), "2");
        SwapChoices last = of(FOUR + "rule weight<99;rule weight<99;rule weight<99;rule weight<99;rule weight<99;rule weight<99;"
            + "rule weight<99;rule weight<99;rule weight<99;rule not a;");
        due("when the tenth rule alone does not hold", allowed(last), "134");
        due("when all are struck out", allowed(of("choose 1;thing a 1;thing b 1;strike a;strike b;")), "");
    }

    // ---- the walk

    private static void walkAtFirst() {
        for (SwapChoices x : new SwapChoices[] {new SwapChoices(), of(FOUR), afterAWalk()}) {
            due("NOW", x.size(9), -1);
            due("VISITED ones", x.size(4), 0);
            due("MODE", x.size(8), 0);
            due("trail(0)", x.trail(0), -1);
            due("the first one is not VISITED", x.choice(0, 3), 0);
        }
        for (int mode = 0; mode <= 2; mode++) {
            due("MODE of a text", of("choose 1 mode " + mode + ";thing a 1;thing b 1;").size(8), mode);
            SwapChoices x = new SwapChoices();
            x.setMode(mode);
            due("MODE by setMode", x.size(8), mode);
        }
        dueError("choose 1 mode 3;thing a 1;thing b 1;", 2, 14);
    }

    private static SwapChoices afterAWalk() {
        SwapChoices x = of("choose 2 mode 2;" + things(4) + "rule a;strike a b;");
        x.steps(2);
        load(x, FOUR);
        return x;
    }

    private static void mode0() {
        SwapChoices x = of(FOUR + "strike a b;");
        due("NOW is NONE", x.next(), 1);
        x.strike(0, false);
        due("NOW is NONE, and the first one is there", x.next(), 0);
        x.strike(0, true);
        x.step();
        x.swap(1, 3);
        x.strike(0, false);
        due("NOW is 3", x.next(), 4);
        x.strike(4, true);
        due("the one above it is left out", x.next(), 5);
        x.strike(5, true);
        due("none is above it", x.next(), 0);
        x.strike(0, true);
        due("none is above it, and not the first one", x.next(), 2);
        x.strike(2, true);
        due("none is left", x.next(), -1);
        SwapChoices end = of(FOUR + "strike a b;strike b c;strike a c;strike c d;strike b d;");
        due("the last one", end.step(), 5);
        end.strike(0, false);
        due("from the last one to the first one", end.next(), 0);
        end.strike(5, true);
        due("from one that is not allowed any more", end.next(), 0);
    }

    private static void mode1() {
        SwapChoices x = of("choose 2 mode 1;" + things(4) + "strike a b;strike b c;");
        due("NOW is NONE", x.next(), 2);
        x.step();
        // From 2 a c all are at 1 but 4 b d.
        x.strike(0, false);
        due("of several at 1 the smallest number", x.step(), 0);
        // From 0 a b all are at 1 but 3 c d; 1 is struck out.
        due("not the smallest number, but a nearer one", x.step(), 4);
        x.strike(5, true);
        due("3 alone is left", x.step(), 3);
        x.strike(1, false);
        x.strike(5, false);
        due("of two at 1 the smallest number", x.step(), 1);
        due("5 at the greatest distance, alone", x.step(), 5);
        due("swaps", x.size(11), 1 + 1 + 1 + 1 + 2);
        SwapChoices alike = of("choose 5 mode 1;" + things(10) + "rule all(f g h i j) or all(a b c d e) or all(b c d e f);"
            + "strike a b c d e;");
        due("NOW is NONE, and the distances would not be alike", alike.next(), alike.nearest(0, true));
    }

    private static void mode2() {
        // 0 a b (9), 1 b c (9), 2 a c (8), 3 c d (9), 4 b d (10), 5 a d (9).
        String text = "choose 2 mode 2;thing a 4;thing b 5;thing c 4;thing d 5;";
        SwapChoices x = of(text);
        due("NOW is NONE: the lightest", x.step(), 2);
        // From 2 a c 0, 1, 3 and 5 weigh 9 and are at 1.
        due("of several at 1 the smallest number", x.step(), 0);
        // From 0 a b: 1 and 5 at 1, 3 at 2.
        x.strike(1, true);
        due("the nearer one, not the smaller number", x.step(), 5);
        due("the last one that weighs 9", x.step(), 3);
        due("the heaviest one", x.step(), 4);
        due("none is left", x.step(), -2);
        SwapChoices alike = of(text + "rule weight = 9;");
        due("NOW is NONE: of several that weigh alike the smallest number", alike.next(), 0);
        SwapChoices far = of("choose 2 mode 2;thing a 0;thing b 0;thing c 99;thing d 99;rule number = 0 or number = 3 or number = 1;");
        due("the lightest", far.step(), 0);
        due("a lighter one", far.step(), 1);
        far.back();
        far.setWeight(2, 1);
        far.setWeight(3, 0);
        far.setWeight(1, 9);
        // From 0 a b: 1 b c weighs 10 and is at 1, 3 c d weighs 1 and is at 2.
        due("a lighter one that is farther", far.step(), 3);
        SwapChoices by1 = of("choose 5 mode 2;thing a 0;thing b 0;thing c 0;thing d 0;thing e 1;thing f 0;thing g 0;thing h 0;"
            + "thing i 0;thing j 0;rule all(a b c d f) or all(f g h i j) or all(a b c e f);strike f g h i j;");
        by1.step();
        by1.strike(by1.numberOf(31 << 5), false);
        due("lighter by 1 and farther by 3", by1.choice(by1.next(), 0), 31 << 5);
    }

    private static void swapsOfSteps() {
        SwapChoices x = of(text(5, 10) + "rule all(a b c d e) or all(f g h i j);");
        due("swaps at first", x.size(11), 0);
        x.step();
        due("steps", x.size(10), 1);
        due("swaps from NONE", x.size(11), 0);
        x.step();
        due("steps", x.size(10), 2);
        due("swaps over the greatest distance", x.size(11), 5);
        x.back();
        x.back();
        x.step();
        due("swaps from NONE again", x.size(11), 0);
        x.reset();
        x.steps(2);
        due("swaps of two steps", x.size(11), 5);
        due("steps of two", x.size(10), 2);
        SwapChoices first = of(FOUR + "strike a b;strike b c;strike a c;");
        due("a first step to one that is not 0", first.step(), 3);
        due("swaps from NONE to it", first.size(11), 0);
        first.strike(0, false);
        first.setMode(2);
        due("a step from a choice to 0", first.step(), 0);
        due("swaps to it", first.size(11), 2);
    }

    private static void trailWithoutThoseTakenBack() {
        SwapChoices x = new SwapChoices();
        x.step();
        x.swap(0, 2);
        x.step();
        due("steps and swaps by hand", trailOf(x), "0 1 2 ");
        x.back();
        due("without the last one", trailOf(x), "0 1 ");
        x.swap(1, 3);
        due("with another one behind", trailOf(x), "0 1 3 ");
        x.back();
        x.back();
        x.back();
        due("all taken back", trailOf(x), "");
        x.step();
        due("the first one again", trailOf(x), "0 ");
        x.swap(0, 3);
        x.strike(4, true);
        due("one that is not allowed any more stays", trailOf(x), "0 4 ");
    }

    private static void trailOfAll() {
        for (int mode = 0; mode <= 2; mode++) {
            SwapChoices x = of(text(5, 10));
            x.setMode(mode);
            x.steps(200);
            x.steps(200);
            due("steps", x.size(10), 252);
            boolean[] seen = new boolean[252];
            int once = 0;
            for (int p = 0; p < 252; p++) {
                int c = x.trail(p);
                if (c >= 0 && c < 252 && !seen[c]) {
                    seen[c] = true;
                    once++;
                }
            }
            due("choices that the trail by mode " + mode + " has once", once, 252);
            due("behind the last place", x.trail(252), -1);
            due("a step more", x.step(), -2);
        }
    }

    // ---- ways

    private static void neighbours() {
        SwapChoices all = of(text(5, 10));
        due("the most neighbours", all.choice(0, 8), 25);
        due("the most neighbours", all.choice(251, 8), 25);
        SwapChoices two = of(text(1, 2));
        due("the fewest", two.choice(0, 8), 1);
        two.strike(1, true);
        due("none", two.choice(0, 8), 0);
        due("of one that is not allowed", two.choice(1, 8), 0);
        SwapChoices gap = of(FOUR + "rule number = 0 or number = 3;");
        due("at distance 2", gap.choice(0, 8), 0);
        due("length at distance 2", gap.far(0, 3), -1);
        gap.switchRule(0);
        due("with those between", gap.choice(0, 8), 4);
    }

    private static void ways() {
        SwapChoices x = of(text(5, 10));
        int other = x.numberOf(31 << 5);
        due("the longest way when all are allowed", x.far(0, other), 5);
        due("the shortest way", x.far(0, 1), 1);
        due("no way at all", x.far(0, 0), 0);
        // 1 of 10: all are neighbours.
        SwapChoices one = of(text(1, 10));
        due("of singles", one.far(0, 9), 1);
        // A way that is longer than the distance: a b, a c, c d, d e, b e round; without a b - b e.
        SwapChoices round = of(text(2, 5) + "rule all(a b) or all(a c) or all(c d) or all(d e);");
        due("distance of the ends", round.distance(round.numberOf(3), round.numberOf(24)), 2);
        due("length between the ends", round.far(round.numberOf(3), round.numberOf(24)), 3);
    }

    private static void parts() {
        SwapChoices x = of(FOUR + "rule number = 0 or number = 3;");
        due("size of the part of one alone", x.part(0, 1), 1);
        due("its greatest length", x.part(0, 2), 0);
        due("part of the other one", x.choice(3, 7), 1);
        x.switchRule(0);
        due("part of all", x.part(0, 1), 6);
        due("the length to 3", x.part(0, 2), 2);
        SwapChoices big = of(text(5, 10));
        due("a part of 252", big.part(0, 1), 252);
        due("its greatest length", big.part(0, 2), 5);
    }

    private static void numbersOfParts() {
        // Four choices that share one thing each, two by two: each is a part of its own.
        SwapChoices x = of(text(3, 6) + "rule all(a b c) or all(a d e) or all(b d f) or all(c e f);");
        due("parts", x.size(12), 4);
        int before = -1;
        for (int p = 0; p < 4; p++) {
            int smallest = x.part(p, 0);
            due("in order", smallest > before, true);
            due("the part of " + smallest, x.choice(smallest, 7), p);
            before = smallest;
        }
        x.strike(x.part(0, 0), true);
        due("parts without the first one", x.size(12), 3);
        due("the part of the last one then", x.choice(before, 7), 2);
        // 0 a b and 5 a d are neighbours, and 3 c d is one of 5; so the part with 0 has the number 0 for all.
        SwapChoices one = of(FOUR + "rule number = 0 or number = 3 or number = 5;");
        due("numbers of one part", Arrays.asList(one.choice(0, 7), one.choice(3, 7), one.choice(5, 7)), Arrays.asList(0, 0, 0));
        one.strike(0, true);
        due("numbers without the smallest", Arrays.asList(one.choice(0, 7), one.choice(3, 7), one.choice(5, 7)),
            Arrays.asList(-1, 0, 0));
    }
}
