import java.util.NoSuchElementException;

/**
 * For each promise of the document calls with the answers that it asks for, worked out by hand.
 */
public final class PromisesTest extends Checks {
    public static void main(String[] args) {
        texts();
        asks();
        walks();
        operations();
        tail();
        finish();
    }

    private static void texts() {
        newObject();
        feed();
        load();
        loadErrorsOfHeadAndThings();
        loadErrorsOfTests();
        loadErrorsOfStrikes();
        meaningsOfTests();
        errorPosition();
    }

    private static void asks() {
        size();
        things();
        choice();
        order();
        pairs();
        nearestWithHeaviest();
        rules();
        whys();
        ways();
        wouldBe();
        measures();
    }

    private static void walks() {
        modes();
        trailAndAhead();
        ends();
    }

    private static void operations() {
        stepAndSteps();
        swap();
        backAndReset();
        setters();
        addRule();
        dropAndSwitch();
        strike();
    }

    private static void tail() {
        many();
        format();
        undo();
        undoRestores();
        snapshot();
        constants();
    }

    // ---- promises 1 to 4

    private static void newObject() {
        promise = 1;
        SwapChoices x = new SwapChoices();
        int[] sizes = {4, 2, 6, 6, 0, 0, 0, 0, 0, -1, 0, 0, 1, 6};
        for (int what = 0; what < sizes.length; what++) due("size(" + what + ")", x.size(what), sizes[what]);
        for (int t = 0; t < 4; t++) {
            due("weight", x.weight(t), t + 1);
            due("nameByte", x.nameByte(t, 0), 'a' + t);
            due("nameByte", x.nameByte(t, 1), -1);
        }
        due("feed", x.feed(0, 0, 0, 0, 0), 20);
        due("errorPosition", x.errorPosition(), -1);
        due("undoCount", x.undoCount(), 0);
        due("restoreSnapshot", x.restoreSnapshot(), false);
        due("formattedByte", x.formattedByte(0), -1);
    }

    private static void feed() {
        promise = 2;
        SwapChoices x = new SwapChoices();
        for (int i = 1; i <= 40; i++) due("feed", x.feed(0x20202020, 0x0a0a0a0a, 0, -1, 7), 20 * i);
        due("feed over 800", x.feed(0, 0, 0, 0, 0), -1);
        due("feed over 800", x.feed(0, 0, 0, 0, 0), -1);
        dueThrow("load(801)", ILLEGAL, () -> x.load(801));
        due("load(800)", x.load(800), -11);
        due("errorPosition", x.errorPosition(), 8);
        due("feed again", x.feed(0, 0, 0, 0, 0), 20);
        // The most significant byte comes first: "a or", " b a", "nd c", " or ", "d".
        SwapChoices y = new SwapChoices();
        y.feed(0x61206f72, 0x20622061, 0x6e642063, 0x206f7220, 0x64202020);
        due("many(20)", y.many(20, false), 6);
        y.feed(0x61000000, 0, 0, 0, 0);
        due("many(1)", y.many(1, false), 3);
        y.feed(0x0a0a0a61, 0, 0, 0, 0);
        due("many(4)", y.many(4, false), 3);
        y.feed(0xe1616161, 0, 0, 0, 0);
        due("many of a byte above 127", y.many(4, false), -1000001);
    }

    private static void load() {
        promise = 3;
        SwapChoices x = new SwapChoices();
        due("load", load(x, "choose 2;thing x 5;thing yy 0;thing zzzzzz 99;rule not x;strike yy zzzzzz;"), 0);
        int[] sizes = {3, 2, 3, 0, 0, 1, 1, 1, 0, -1, 0, 0, 0, 0};
        for (int what = 0; what < sizes.length; what++) due("size(" + what + ")", x.size(what), sizes[what]);
        due("load without blanks", load(x, "choose1mode2;thing a0;thing b007;rule(a)or(b);"), 2);
        due("weight", x.weight(1), 7);
        due("size(8)", x.size(8), 2);
        due("load with many blanks", load(x, "\n choose\n01 ;\nthing b\n 000099 ; thing a 0\n;\n"), 2);
        due("weight", x.weight(0), 99);
        due("load of 10 things", load(x, "choose 5;thing a 1;thing b 1;thing c 1;thing d 1;thing e 1;thing f 1;"
            + "thing g 1;thing h 1;thing i 1;thing j 1;"), 252);
        due("load of 9 of 10", load(x, "choose 9;thing a 1;thing b 1;thing c 1;thing d 1;thing e 1;thing f 1;"
            + "thing g 1;thing h 1;thing i 1;thing j 1;strike j i h g f e d c b;"), 9);
        due("names of rules that are things", load(x, "choose 1;thing aa 1;thing ab 1;rule aa;"), 1);
        replaces();
        for (int length : new int[] {-1, Integer.MIN_VALUE, 21, Integer.MAX_VALUE}) {
            SwapChoices y = fed(new SwapChoices(), "choose 10;");
            y.setMode(1);
            dueThrow("load(" + length + ")", ILLEGAL, () -> y.load(length));
            due("feed after it", y.feed(0, 0, 0, 0, 0), 40);
            due("errorPosition after it", y.errorPosition(), -1);
        }
        SwapChoices z = fed(new SwapChoices(), THREE);
        due("load of a beginning", z.load(29), -16);
        due("feed after an error", z.feed(0, 0, 0, 0, 0), 20);
        due("load(0)", z.load(0), -11);
        due("feed after load(0)", z.feed(0, 0, 0, 0, 0), 20);
    }

    private static void replaces() {
        SwapChoices x = of(FOUR);
        x.step();
        x.steps(2);
        x.setMode(2);
        x.strike(5, true);
        x.saveSnapshot();
        due("load with an error", load(x, "choose 1;"), -11);
        due("undoCount after an error", x.undoCount(), 4);
        due("trail after an error", x.size(10), 3);
        due("load", load(x, THREE), 3);
        due("undoCount", x.undoCount(), 0);
        due("undo", x.undo(), -1);
        due("restoreSnapshot", x.restoreSnapshot(), false);
        int[] sizes = {3, 2, 3, 3, 0, 0, 0, 0, 0, -1, 0, 0, 1, 3};
        for (int what = 0; what < sizes.length; what++) due("size(" + what + ")", x.size(what), sizes[what]);
        due("trail(0)", x.trail(0), -1);
    }

    private static void loadErrorsOfHeadAndThings() {
        promise = 3;
        dueError("", 1, 0);
        dueError("  ", 1, 2);
        dueError("thing a 1;", 1, 0);
        dueError("chooses 1;", 1, 0);
        dueError("choose", 1, 6);
        dueError("choose a;", 1, 7);
        dueError("choose 0;", 2, 7);
        dueError("choose 10;", 2, 7);
        dueError("choose 99999999999999999999;", 2, 7);
        dueError("choose 4294967298;thing a 1;", 2, 7);
        dueError("choose 1 mode;", 1, 13);
        dueError("choose 1 mode 3;", 2, 14);
        dueError("choose 1 1;", 1, 9);
        dueError("choose 1;", 1, 9);
        dueError("choose 1;rule a;", 1, 9);
        dueError("choose 1;strike a;", 1, 9);
        dueError("choose 1;thing", 1, 14);
        dueError("choose 1;thing 1 1;", 1, 15);
        dueError("choose 1;thing thing 1;", 3, 15);
        for (String word : Model.QUOTED) dueError("choose 1;thing " + word + " 100;", 3, 15);
        dueError("choose 1;thing abcdefg 1;", 3, 15);
        dueError("choose 1;thing a 1;thing a 1;", 3, 25);
        dueError("choose 1;thing a b;", 1, 17);
        dueError("choose 1;thing a 100;", 2, 17);
        dueError("choose 1;thing a 1", 1, 18);
        dueError("choose 1;thing a 1 thing b 1;", 1, 19);
        dueError("choose 1;thing a 1;", 6, 19);
        dueError("choose 1;thing a 1; ", 6, 20);
        dueError("choose 2;thing a 1;thing b 1; rule a;", 6, 30);
        dueError("choose 2;thing a 1;thing b 1;strike a b;", 6, 29);
        dueError("choose 2;thing a 1;thing b 1;strange", 1, 29);
        dueError("choose 2;thing a 1;thing b 1;;", 1, 29);
        dueError("choose 2;thing a 1;thing b 1;#", 1, 29);
        dueError("choose 2;thing a 1;thing B 1;", 1, 25);
        dueError("choose 2;thing a 1;\tthing b 1;", 1, 19);
        dueError(THREE + "a", 1, THREE.length());
        dueError(THREE + "rule a;thing d 1;", 1, THREE.length() + 7);
        String ten = "choose 9;thing a 1;thing b 1;thing c 1;thing d 1;thing e 1;thing f 1;thing g 1;thing h 1;thing i 1;"
            + "thing j 1;";
        dueError(ten + "thing a", 5, ten.length());
        dueError(ten + "thing", 5, ten.length());
    }

    private static void loadErrorsOfTests() {
        promise = 3;
        dueError(THREE + "rule", 1, THREE.length() + 4);
        dueError(THREE + "rule a", 1, THREE.length() + 6);
        dueError(THREE + "rule a or", 1, THREE.length() + 9);
        dueError(THREE + "rule a) ;", 1, THREE.length() + 6);
        String rules = THREE;
        for (int i = 0; i < 10; i++) rules += "rule a;";
        dueError(rules + "rule", 5, rules.length());
        due("load of 10 rules", of(rules).size(6), 10);
        dueTestError("a or ", 1, 5);
        dueTestError("", 1, 0);
        dueTestError("or", 1, 0);
        dueTestError("and", 1, 0);
        dueTestError("thing", 1, 0);
        dueTestError("a b", 1, 2);
        dueTestError("a not b", 1, 2);
        dueTestError("1", 1, 0);
        dueTestError("e", 4, 0);
        dueTestError("a and e", 4, 6);
        dueTestError("abcdefgh", 4, 0);
        dueTestError("choose", 1, 0);
        dueTestError("all a", 1, 4);
        dueTestError("all()", 1, 4);
        dueTestError("all(a and b)", 1, 6);
        dueTestError("all(not)", 1, 4);
        dueTestError("any(a e)", 4, 6);
        dueTestError("none(a", 1, 6);
        dueTestError("none(a (", 1, 7);
        dueTestError("most (a)", 1, 5);
        dueTestError("most 11(a)", 2, 5);
        dueTestError("least 11(a)", 2, 6);
        dueTestError("least 1", 1, 7);
        dueTestError("least 1 a", 1, 8);
        dueTestError("weight 1", 1, 7);
        dueTestError("weight = a", 1, 9);
        dueTestError("weight = 10000", 2, 9);
        dueTestError("number > 10000", 2, 9);
        dueTestError("number < < 1", 1, 9);
        dueTestError("(a", 1, 2);
        dueTestError("()", 1, 1);
        dueTestError("((((((a))))) or ((((((a", 7, 21);
        dueTestError("((((((a))))) or (((((a", 1, 22);
        dueTestError("((((((a)))))) or ((((((( a", 7, 23);
        dueTestError("not not not not not not not a", 7, 24);
        dueTestError("not(not(not(not a", 7, 12);
        dueTestError("not not not((( (", 7, 15);
        dueTestError("((((((not", 7, 6);
        due("load of a ; in a test", load(new SwapChoices(), THREE + "rule a;;"), -11);
        due("addRule with ;", add(new SwapChoices(), "a;"), -11);
    }

    private static void loadErrorsOfStrikes() {
        promise = 3;
        int at = FOUR.length();
        dueError(FOUR + "strike", 1, at + 6);
        dueError(FOUR + "strike;", 1, at + 6);
        dueError(FOUR + "strike 1;", 1, at + 7);
        dueError(FOUR + "strike a", 1, at + 8);
        dueError(FOUR + "strike a b", 1, at + 10);
        dueError(FOUR + "strike a;", 6, at + 8);
        dueError(FOUR + "strike a a;", 4, at + 9);
        dueError(FOUR + "strike a e;", 4, at + 9);
        dueError(FOUR + "strike a or;", 4, at + 9);
        dueError(FOUR + "strike rule;", 4, at + 7);
        dueError(FOUR + "strike a b c;", 5, at + 11);
        dueError(FOUR + "strike a b a;", 4, at + 11);
        dueError(FOUR + "strike a b x;", 4, at + 11);
        dueError(FOUR + "strike a b not;", 4, at + 11);
        dueError(FOUR + "strike a b 1;", 1, at + 11);
        dueError(FOUR + "strike a b;strike b a ;", 6, at + 22);
        SwapChoices x = of(FOUR + "strike a b;rule c;strike d c;strike b c;");
        due("size(5)", x.size(5), 3);
        due("allowed", x.size(3), 1);
        due("why(3)", x.why(3), 1);
        due("why(4)", x.why(4), 100);
    }

    private static void meaningsOfTests() {
        promise = 15;
        SwapChoices x = new SwapChoices();
        due("a", heldFor(x, "a"), "025");
        due("not a", heldFor(x, "not a"), "134");
        due("all", heldFor(x, "all (a b)"), "0");
        due("all twice", heldFor(x, "all (a a)"), "025");
        due("any", heldFor(x, "any (a b)"), "01245");
        due("none", heldFor(x, "none (a b)"), "3");
        due("most 1", heldFor(x, "most 1 (a b)"), "12345");
        due("most 0", heldFor(x, "most 0 (a b b)"), "3");
        due("most 1 twice", heldFor(x, "most 1 (a a a)"), "012345");
        due("least 2", heldFor(x, "least 2 (a b c)"), "012");
        due("least 2 twice", heldFor(x, "least 2 (a b b)"), "0");
        due("least 0", heldFor(x, "least 0 (a)"), "012345");
        due("least 10", heldFor(x, "least 10 (a b c d)"), "");
        due("most 10", heldFor(x, "most 10 (a)"), "012345");
        due("weight <", heldFor(x, "weight < 5"), "02");
        due("weight =", heldFor(x, "weight = 5"), "15");
        due("weight >", heldFor(x, "weight > 5"), "34");
        due("number <", heldFor(x, "number < 2"), "01");
        due("number =", heldFor(x, "number = 002"), "2");
        due("number >", heldFor(x, "number>3"), "45");
        due("number < 9999", heldFor(x, "number < 9999"), "012345");
        due("and before or", heldFor(x, "a or b and c"), "0125");
        due("and before or", heldFor(x, "b and c or a"), "0125");
        due("brackets", heldFor(x, "(a or b) and c"), "12");
        due("not before and", heldFor(x, "not a and b"), "14");
        due("not of a bracket", heldFor(x, "not (a and b)"), "12345");
        due("not not", heldFor(x, "not not a"), "025");
        due("six not", heldFor(x, "not not not not not not a"), "025");
        due("six brackets, twice", heldFor(x, "((((((a)))))) and ((((((b))))))"), "0");
        due("not twice six deep", heldFor(x, "(((((not a))))) and (((((not b)))))"), "3");
        due("list in six brackets", heldFor(x, "not not not not not (all(a b))"), "12345");
        due("deep waits", heldFor(x, "d or a and (d or a and (d or a and (d or a and (d or a and (d or a and (d or a and b)))))"
            + ")"), "0345");
    }

    private static void errorPosition() {
        promise = 4;
        SwapChoices x = new SwapChoices();
        due("errorPosition of a new one", x.errorPosition(), -1);
        load(x, "choose 0;");
        due("errorPosition", x.errorPosition(), 7);
        fed(x, "a b");
        dueThrow("load(21)", ILLEGAL, () -> x.load(21));
        dueThrow("addRule(21)", ILLEGAL, () -> x.addRule(21));
        dueThrow("many(-1)", ILLEGAL, () -> x.many(-1, true));
        x.undo();
        x.restoreSnapshot();
        due("errorPosition stays", x.errorPosition(), 7);
        due("many", x.many(3, true), -1000001);
        due("errorPosition", x.errorPosition(), 2);
        due("addRule", add(x, "a or e"), -14);
        due("errorPosition", x.errorPosition(), 5);
        due("many", many(x, "a", true), 3);
        due("errorPosition", x.errorPosition(), -1);
        due("load", load(x, "choose 1"), -11);
        due("errorPosition", x.errorPosition(), 8);
        for (int i = 0; i < 10; i++) add(x, "a");
        due("errorPosition", x.errorPosition(), -1);
        due("many", many(x, "a or", true), -1000001);
        due("addRule of the 11th", add(x, "a"), -2);
        due("errorPosition after -2", x.errorPosition(), 4);
        x.load(1);
        due("the buffer after -2", x.errorPosition(), 0);
        due("undo", x.undo(), 9);
        due("errorPosition after undo", x.errorPosition(), 0);
        due("load", load(x, THREE), 3);
        due("errorPosition", x.errorPosition(), -1);
    }

    // ---- promises 5 to 14

    private static void size() {
        promise = 5;
        SwapChoices x = of("choose 2 mode 1;thing a 1;thing b 2;thing c 3;thing d 4;rule not (a and c);rule b or c or d;"
            + "strike b c;");
        x.switchRule(1);
        x.step();
        x.step();
        x.setWeight(0, 50);
        int[] sizes = {4, 2, 6, 4, 2, 1, 2, 1, 1, 4, 2, 1, 1, 2};
        for (int what = 0; what < sizes.length; what++) due("size(" + what + ")", x.size(what), sizes[what]);
        x.strike(0, true);
        due("VISITED when struck out", x.size(4), 2);
        due("left when struck out", x.size(13), 2);
        due("allowed when struck out", x.size(3), 3);
        SwapChoices apart = of(FOUR + "rule all(a b) or all(c d);");
        due("parts", apart.size(12), 2);
        apart.steps(2);
        due("swaps over a gap", apart.size(11), 2);
        for (int what : FAR_OUT) dueThrow("size(" + what + ")", ILLEGAL, () -> x.size(what));
        dueThrow("size(14)", ILLEGAL, () -> x.size(14));
    }

    private static void things() {
        promise = 6;
        SwapChoices x = of("choose 1;thing abcdef 7;thing xy 99;thing z 0;");
        due("weight(0)", x.weight(0), 7);
        due("weight(1)", x.weight(1), 99);
        due("weight(2)", x.weight(2), 0);
        dueThrow("weight(3)", NO_SUCH, () -> x.weight(3));
        promise = 7;
        String[] names = {"abcdef", "xy", "z"};
        for (int t = 0; t < names.length; t++) {
            for (int i = 0; i < names[t].length(); i++) due("nameByte", x.nameByte(t, i), (int) names[t].charAt(i));
            int thing = t;
            due("nameByte behind", x.nameByte(t, names[t].length()), -1);
            for (int i : FAR_OUT) due("nameByte(" + i + ")", x.nameByte(thing, i), -1);
        }
        dueThrow("nameByte(3, 0)", NO_SUCH, () -> x.nameByte(3, 0));
        dueThrow("nameByte(3, -1)", NO_SUCH, () -> x.nameByte(3, -1));
        for (int t : FAR_OUT) {
            promise = 6;
            dueThrow("weight(" + t + ")", NO_SUCH, () -> x.weight(t));
            promise = 7;
            dueThrow("nameByte(" + t + ")", NO_SUCH, () -> x.nameByte(t, 0));
        }
    }

    private static void choice() {
        promise = 8;
        SwapChoices x = of(FOUR + "rule all(a b) or d;strike b d;");
        // Allowed are 0 a b, 3 c d and 5 a d; 5 is a neighbour of both.
        x.step();
        x.steps(1);
        int[][] due = {
            {3, 3, 1, 1, 0, 3, 1, 0, 1, 0},
            {6, 5, 0, 0, 0, 0, 2, -1, 0, -1},
            {5, 4, 0, 0, 0, 1, 0, -1, 0, -1},
            {12, 7, 1, 1, 0, 0, 3, 0, 1, 1},
            {10, 6, 0, 0, 1, 2, 1, -1, 0, -1},
            {9, 5, 1, 0, 0, 1, 0, 0, 2, -1}};
        for (int c = 0; c < due.length; c++) {
            for (int what = 0; what < 10; what++) due("choice(" + c + ", " + what + ")", x.choice(c, what), due[c][what]);
        }
        x.strike(5, true);
        due("part when cut", x.choice(3, 7), 1);
        due("neighbours when cut", x.choice(3, 8), 0);
        for (int c : new int[] {-1, 6, Integer.MAX_VALUE, Integer.MIN_VALUE}) {
            dueThrow("choice(" + c + ", 0)", NO_SUCH, () -> x.choice(c, 0));
            dueThrow("choice(" + c + ", 10)", NO_SUCH, () -> x.choice(c, 10));
        }
        for (int what : FAR_OUT) dueThrow("choice(0, " + what + ")", ILLEGAL, () -> x.choice(0, what));
        dueThrow("choice(0, 10)", ILLEGAL, () -> x.choice(0, 10));
        SwapChoices two = of("choose 1;thing a 1;thing b 1;");
        due("choice(0, 5) of two", two.choice(0, 5), 1);
        due("choice(0, 6) of two", two.choice(0, 6), 0);
        due("choice(1, 5) of two", two.choice(1, 5), 0);
    }

    private static void order() {
        promise = 9;
        SwapChoices five = of("choose 2;thing a 1;thing b 1;thing c 1;thing d 1;thing e 1;");
        int[] order = {3, 6, 5, 12, 10, 9, 24, 20, 18, 17};
        for (int c = 0; c < order.length; c++) {
            due("choice", five.choice(c, 0), order[c]);
            due("numberOf", five.numberOf(order[c]), c);
        }
        for (int k = 1; k <= 9; k++) everyChoiceOnce(k);
        for (int bits : new int[] {0, 1, 7, 31, 33, 34, 1 << 30, 3 | 1 << 31, -1, Integer.MIN_VALUE, 1 << 10, 1 << 10 | 1}) {
            due("numberOf(" + bits + ")", five.numberOf(bits), -1);
        }
        SwapChoices smaller = of("choose 5;thing a 1;thing b 1;thing c 1;thing d 1;thing e 1;thing f 1;");
        load(smaller, THREE);
        due("numberOf after a smaller load", smaller.numberOf(31), -1);
        due("numberOf after a smaller load", smaller.numberOf(24), -1);
    }

    private static void everyChoiceOnce(int k) {
        SwapChoices x = of(text(k, 10));
        int choices = x.size(2);
        int found = 0;
        int swaps = 0;
        for (int c = 0; c < choices; c++) swaps += x.distance(c, (c + 1) % choices);
        for (int bits = 0; bits < 1024; bits++) {
            // An object has but 512 calls.
            if (bits % 200 == 0) x = of(text(k, 10));
            int number = x.numberOf(bits);
            if ((number >= 0) != (Integer.bitCount(bits) == k)) due("numberOf(" + bits + ")", number, "another one");
            if (number >= 0 && x.choice(number, 0) == bits) found++;
        }
        due("choices of " + k, found, choices);
        due("swaps round by " + k, swaps, choices);
    }

    private static void pairs() {
        SwapChoices x = of(FOUR + "strike a b;");
        promise = 10;
        int[][] far = {{0, 0, 0}, {0, 1, 1}, {0, 3, 2}, {3, 0, 2}, {2, 4, 2}, {5, 1, 2}, {4, 5, 1}};
        for (int[] f : far) due("distance", x.distance(f[0], f[1]), f[2]);
        promise = 11;
        int[][] swaps = {{0, 0, 2, 1}, {0, 1, 3, 5}, {0, 2, 0, -1}, {0, 0, 0, -1}, {0, 0, 1, -1}, {0, 2, 2, -1}, {0, 2, 3, -1},
            {3, 3, 0, 2}, {1, 2, 0, 0}};
        for (int[] s : swaps) due("swapped", x.swapped(s[0], s[1], s[2]), s[3]);
        for (int c : new int[] {-1, 6, Integer.MAX_VALUE, Integer.MIN_VALUE}) {
            promise = 10;
            dueThrow("distance(0, " + c + ")", NO_SUCH, () -> x.distance(0, c));
            dueThrow("distance(" + c + ", 0)", NO_SUCH, () -> x.distance(c, 0));
            promise = 11;
            dueThrow("swapped(" + c + ", 0, 2)", NO_SUCH, () -> x.swapped(c, 0, 2));
        }
        for (int t : new int[] {-1, 4, 32, Integer.MAX_VALUE, Integer.MIN_VALUE}) {
            dueThrow("swapped(0, " + t + ", 2)", NO_SUCH, () -> x.swapped(0, t, 2));
            dueThrow("swapped(0, 0, " + t + ")", NO_SUCH, () -> x.swapped(0, 0, t));
        }
    }

    private static void nearestWithHeaviest() {
        SwapChoices x = of(FOUR + "strike b c;strike a d;rule not number = 2;");
        // Allowed are 0 (3), 3 (7) and 4 (6).
        promise = 12;
        int[] up = {3, 3, 3, 4, -1, -1};
        int[] down = {-1, 0, 0, 0, 3, 4};
        for (int c = 0; c < 6; c++) {
            due("nearest up", x.nearest(c, true), up[c]);
            due("nearest down", x.nearest(c, false), down[c]);
        }
        promise = 13;
        int[] with = {1, 2, 1, 2};
        for (int t = 0; t < 4; t++) due("with", x.with(t), with[t]);
        promise = 14;
        due("heaviest", x.heaviest(), 3);
        x.setWeight(0, 5);
        due("heaviest of two alike", x.heaviest(), 0);
        x.strike(0, true);
        x.strike(3, true);
        due("heaviest", x.heaviest(), 4);
        x.strike(4, true);
        due("heaviest of none", x.heaviest(), -1);
        due("heaviest of weight 0", of("choose 1;thing a 0;thing b 0;").heaviest(), 0);
        for (int c : new int[] {-1, 6, Integer.MAX_VALUE, Integer.MIN_VALUE}) {
            promise = 12;
            dueThrow("nearest(" + c + ")", NO_SUCH, () -> x.nearest(c, true));
            dueThrow("nearest(" + c + ")", NO_SUCH, () -> x.nearest(c, false));
        }
        promise = 13;
        for (int t : new int[] {-1, 4, Integer.MAX_VALUE, Integer.MIN_VALUE}) dueThrow("with", NO_SUCH, () -> x.with(t));
    }

    // ---- promises 15 to 18

    private static void rules() {
        promise = 15;
        SwapChoices x = of(FOUR + "rule a;rule weight > 4 and not d;rule most 2 (a b c);strike a c;");
        x.switchRule(1);
        due("holds off", x.holds(1, 1), true);
        due("holds off", x.holds(1, 0), false);
        due("holds struck", x.holds(0, 2), true);
        due("holds", x.holds(0, 3), false);
        promise = 16;
        int[][] due = {{1, 3, 3, 1}, {0, 1, 0, 6}, {1, 6, 0, 7}};
        for (int r = 0; r < 3; r++) {
            for (int what = 0; what < 4; what++) due("rule(" + r + ", " + what + ")", x.rule(r, what), due[r][what]);
        }
        x.switchRule(1);
        due("left out by two", x.rule(0, 2), 1);
        due("left out by two", x.rule(1, 2), 2);
        x.setWeight(0, 9);
        due("after setWeight", x.rule(1, 1), 3);
        for (int r : new int[] {-1, 3, 10, 32, Integer.MAX_VALUE, Integer.MIN_VALUE}) {
            promise = 15;
            dueThrow("holds(" + r + ", 0)", NO_SUCH, () -> x.holds(r, 0));
            promise = 16;
            dueThrow("rule(" + r + ", 0)", NO_SUCH, () -> x.rule(r, 0));
            dueThrow("rule(" + r + ", 9)", NO_SUCH, () -> x.rule(r, 9));
        }
        for (int what : FAR_OUT) dueThrow("rule(0, " + what + ")", ILLEGAL, () -> x.rule(0, what));
        dueThrow("rule(0, 4)", ILLEGAL, () -> x.rule(0, 4));
        promise = 15;
        for (int c : new int[] {-1, 6, Integer.MAX_VALUE, Integer.MIN_VALUE}) dueThrow("holds", NO_SUCH, () -> x.holds(0, c));
    }

    private static void whys() {
        SwapChoices x = of(FOUR + "rule weight > 0;rule a or b;rule a;strike b c;strike a c;");
        // 3 fails two rules, 4 fails one; 0 and 5 are left.
        promise = 17;
        int[] why = {0, 1, 1, 101, 102, 3};
        for (int c = 0; c < 6; c++) due("why(" + c + ")", x.why(c), why[c]);
        x.step();
        due("why of a VISITED one", x.why(0), 2);
        due("why of the next one", x.why(5), 0);
        x.switchRule(1);
        due("why with one off", x.why(3), 102);
        x.switchRule(1);
        x.setMode(2);
        add(x, "not b");
        due("why of one that is VISITED and not allowed", x.why(0), 103);
        x.strike(0, true);
        due("why of one that is struck out, too", x.why(0), 1);
        promise = 18;
        int[] against = {1, 2, 0, 2, 2, 0};
        for (int c = 0; c < 6; c++) due("against(" + c + ")", x.against(c), against[c]);
        x.switchRule(2);
        due("against with one off", x.against(3), 1);
        for (int c : new int[] {-1, 6, Integer.MAX_VALUE, Integer.MIN_VALUE}) {
            promise = 17;
            dueThrow("why(" + c + ")", NO_SUCH, () -> x.why(c));
            promise = 18;
            dueThrow("against(" + c + ")", NO_SUCH, () -> x.against(c));
        }
    }

    // ---- promises 19 to 23

    private static String walk(SwapChoices x) {
        StringBuilder text = new StringBuilder();
        for (int i = 0; i < 10 && x.next() >= 0; i++) {
            int comes = x.next();
            text.append(comes == x.step() ? String.valueOf(comes) : "?");
        }
        return text.toString();
    }

    private static void modes() {
        promise = 19;
        due("mode 0", walk(of(FOUR)), "012345");
        SwapChoices x = of(FOUR + "strike a b;");
        x.step();
        x.swap(1, 3);
        due("mode 0 from 3", walk(x), "452");
        x.reset();
        x.strike(0, false);
        x.strike(1, true);
        x.step();
        x.swap(1, 3);
        due("mode 0 round", walk(x), "234");
        // From 3 the ones at 1 are 1, 2, 4, 5; 0 is at 2.
        SwapChoices near = of("choose 2 mode 1;thing a 1;thing b 2;thing c 3;thing d 4;strike a b;strike b c;strike a c;");
        near.step();
        near.strike(0, false);
        near.strike(2, false);
        // From 2, 0 is at 1 and 4 at 2.
        due("mode 1", walk(near), "2045");
        due("mode 1 at the end", near.next(), -1);
        // By weight: 0 (3), 2 (4), 1 and 5 (5), 4 (6), 3 (7); from 2 both are at 1, so 1.
        due("mode 2", walk(of("choose 2 mode 2;thing a 1;thing b 2;thing c 3;thing d 4;")), "021543");
        SwapChoices tie = of("choose 2 mode 2;thing a 5;thing b 5;thing c 5;thing d 5;");
        due("mode 2, all alike", walk(tie), "012345");
        SwapChoices nearer = of("choose 2 mode 2;thing a 5;thing b 5;thing c 5;thing d 5;strike a b;");
        nearer.step();
        nearer.strike(0, false);
        nearer.swap(1, 3);
        // From 3, 0 is at 2, and 2, 4, 5 are at 1.
        due("mode 2, by distance", walk(nearer), "2045");
        due("mode 2 begins with the lightest", of("choose 1 mode 2;thing a 5;thing b 4;thing c 4;").next(), 1);
        due("mode 1 begins with the smallest", of("choose 1 mode 1;thing a 5;thing b 4;").next(), 0);
        due("none", of("choose 1;thing a 5;thing b 4;rule weight = 0;").next(), -1);
    }

    private static void trailAndAhead() {
        promise = 20;
        SwapChoices x = new SwapChoices();
        x.step();
        x.swap(0, 3);
        x.step();
        int[] trail = {0, 4, 5};
        for (int p = 0; p < 3; p++) due("trail(" + p + ")", x.trail(p), trail[p]);
        due("trail(3)", x.trail(3), -1);
        for (int p : FAR_OUT) due("trail(" + p + ")", x.trail(p), -1);
        x.back();
        due("trail after back", x.trail(2), -1);
        x.reset();
        due("trail after reset", x.trail(0), -1);
        promise = 23;
        SwapChoices y = new SwapChoices();
        y.setMode(2);
        String ahead = "021543";
        for (int i = 0; i < 6; i++) due("ahead(" + i + ")", y.ahead(i), ahead.charAt(i) - '0');
        due("ahead(6)", y.ahead(6), -1);
        due("ahead of very many", y.ahead(Integer.MAX_VALUE), -1);
        y.step();
        due("ahead(0) after a step", y.ahead(0), 2);
        due("ahead(5) after a step", y.ahead(5), -1);
        due("size(10)", y.size(10), 1);
        for (int i : new int[] {-1, Integer.MIN_VALUE}) dueThrow("ahead(" + i + ")", ILLEGAL, () -> y.ahead(i));
    }

    private static void ends() {
        // Allowed are 0 a b (3), 3 c d (7), 4 b d (6): by number 0 3 4 takes 2 + 1, by distance 0 4 3 takes 1 + 1.
        SwapChoices x = of(FOUR + "strike b c;strike a c;strike a d;");
        promise = 21;
        int[] swaps = {3, 2, 2};
        for (int m = 0; m < 3; m++) due("swapsToEnd(" + m + ")", x.swapsToEnd(m), swaps[m]);
        promise = 22;
        due("bestMode", x.bestMode(), 1);
        x.setWeight(1, 20);
        promise = 21;
        due("swapsToEnd(2), 3 first", x.swapsToEnd(2), 3);
        x.step();
        due("swapsToEnd(0) after a step", x.swapsToEnd(0), 3);
        x.step();
        due("swapsToEnd(0) after two", x.swapsToEnd(0), 1);
        due("size(8)", x.size(8), 0);
        due("size(10)", x.size(10), 2);
        promise = 22;
        due("bestMode of equal ones", x.bestMode(), 0);
        x.step();
        due("bestMode at the end", x.bestMode(), 0);
        promise = 21;
        due("swapsToEnd at the end", x.swapsToEnd(1), 0);
        // Weights the other way round: 3 c d (3), 0 a b (7), 5 a d (4).
        SwapChoices y = of("choose 2;thing a 4;thing b 9;thing c 3;thing d 0;rule number = 0 or number = 3 or number = 5;");
        int[] other = {3, 2, 2};
        for (int m = 0; m < 3; m++) due("swapsToEnd(" + m + ")", y.swapsToEnd(m), other[m]);
        for (int m : FAR_OUT) dueThrow("swapsToEnd(" + m + ")", ILLEGAL, () -> y.swapsToEnd(m));
        dueThrow("swapsToEnd(3)", ILLEGAL, () -> y.swapsToEnd(3));
        promise = 22;
        // 1 b c (5), 2 a c (14), 4 b d (1): 1 2 4 takes 1 + 2, by weight 4 1 2 takes 1 + 1.
        due("bestMode by weight", of("choose 2;thing a 9;thing b 0;thing c 5;thing d 1;"
            + "rule number = 1 or number = 2 or number = 4;").bestMode(), 2);
        SwapChoices light = of("choose 3;thing a 0;thing b 1;thing c 50;thing d 9;thing e 0;thing f 40;"
            + "rule number = 0 or number = 10 or number = 5 or number = 12 or number = 17;");
        int best = 0;
        for (int m = 1; m < 3; m++) if (light.swapsToEnd(m) < light.swapsToEnd(best)) best = m;
        due("bestMode is that of swapsToEnd", light.bestMode(), best);
    }

    // ---- promises 24 to 32

    private static void ways() {
        // Allowed are 0 a b, 1 b c, 3 c d: a chain.
        SwapChoices x = of(FOUR + "strike a c;strike b d;strike a d;");
        promise = 24;
        int[][] far = {{0, 0, 0}, {0, 1, 1}, {0, 3, 2}, {3, 0, 2}, {0, 2, -1}, {2, 0, -1}, {2, 2, -1}, {1, 3, 1}};
        for (int[] f : far) due("far", x.far(f[0], f[1]), f[2]);
        promise = 25;
        int[][] toward = {{0, 3, 1}, {3, 0, 1}, {0, 1, 1}, {1, 0, 0}, {0, 0, -1}, {0, 2, -1}, {2, 0, -1}, {2, 2, -1}};
        for (int[] t : toward) due("toward", x.toward(t[0], t[1]), t[2]);
        SwapChoices all = new SwapChoices();
        due("toward, the smallest of several", all.toward(0, 3), 1);
        due("toward, the smallest of several", all.toward(5, 1), 0);
        due("toward, the smallest of several", all.toward(3, 0), 1);
        x.strike(1, true);
        promise = 24;
        due("far without a way", x.far(0, 3), -1);
        promise = 25;
        due("toward without a way", x.toward(0, 3), -1);
        for (int c : new int[] {-1, 6, Integer.MAX_VALUE, Integer.MIN_VALUE}) {
            promise = 24;
            dueThrow("far(0, " + c + ")", NO_SUCH, () -> x.far(0, c));
            dueThrow("far(" + c + ", 0)", NO_SUCH, () -> x.far(c, 0));
            promise = 25;
            dueThrow("toward(0, " + c + ")", NO_SUCH, () -> x.toward(0, c));
            dueThrow("toward(" + c + ", " + c + ")", NO_SUCH, () -> x.toward(c, c));
        }
        parts();
        detour();
    }

    private static void parts() {
        promise = 26;
        SwapChoices x = of("choose 2;thing a 1;thing b 1;thing c 1;thing d 1;thing e 1;"
            + "rule number = 1 or number = 0 or number = 6 or number = 7 or number = 4;rule not number = 4;");
        // 0 a b, 1 b c, 6 d e, 7 c e: 0 - 1 - 7 - 6.
        int[] one = {0, 4, 3};
        for (int what = 0; what < 3; what++) due("part(0, " + what + ")", x.part(0, what), one[what]);
        x.strike(7, true);
        int[][] two = {{0, 2, 1}, {6, 1, 0}};
        for (int p = 0; p < 2; p++) {
            for (int what = 0; what < 3; what++) due("part(" + p + ", " + what + ")", x.part(p, what), two[p][what]);
        }
        for (int p : new int[] {-1, 2, Integer.MAX_VALUE, Integer.MIN_VALUE}) {
            dueThrow("part(" + p + ", 0)", NO_SUCH, () -> x.part(p, 0));
            dueThrow("part(" + p + ", 3)", NO_SUCH, () -> x.part(p, 3));
        }
        for (int what : FAR_OUT) dueThrow("part(0, " + what + ")", ILLEGAL, () -> x.part(0, what));
        dueThrow("part(0, 3)", ILLEGAL, () -> x.part(0, 3));
        SwapChoices none = of(THREE + "rule number > 7;");
        dueThrow("part(0, 0) of none", NO_SUCH, () -> none.part(0, 0));
    }

    /** A way that is longer than the distance: 0 and 6 of five things by 1 and 7. */
    private static void detour() {
        promise = 24;
        SwapChoices x = of("choose 2;thing a 1;thing b 1;thing c 1;thing d 1;thing e 1;"
            + "rule number < 2 or number = 6 or number = 7;");
        due("distance", x.distance(0, 6), 2);
        due("far", x.far(0, 6), 3);
        promise = 25;
        due("toward", x.toward(0, 6), 1);
        due("toward", x.toward(6, 0), 7);
    }

    private static void wouldBe() {
        SwapChoices x = of(FOUR + "rule number = 0 or number = 3;rule not number = 3 and weight < 9;rule weight < 9;");
        x.switchRule(1);
        promise = 27;
        int[] allowed = {6, 1, 2};
        for (int r = 0; r < 3; r++) due("allowedIf(" + r + ")", x.allowedIf(r), allowed[r]);
        promise = 28;
        int[] parts = {1, 1, 2};
        for (int r = 0; r < 3; r++) due("partsIf(" + r + ")", x.partsIf(r), parts[r]);
        due("parts", x.size(12), 2);
        due("allowed", x.size(3), 2);
        promise = 29;
        due("strictest", x.strictest(), 0);
        x.switchRule(0);
        due("strictest", x.strictest(), 2);
        x.switchRule(1);
        due("strictest", x.strictest(), 1);
        x.switchRule(1);
        x.switchRule(2);
        due("strictest when none is on", x.strictest(), -1);
        due("strictest without rules", new SwapChoices().strictest(), -1);
        SwapChoices alike = of(FOUR + "rule a;rule b;rule weight > 99;rule weight > 98;");
        due("strictest of several", alike.strictest(), 0);
        for (int r : new int[] {-1, 3, 31, 32, Integer.MAX_VALUE, Integer.MIN_VALUE}) {
            promise = 27;
            dueThrow("allowedIf(" + r + ")", NO_SUCH, () -> x.allowedIf(r));
            promise = 28;
            dueThrow("partsIf(" + r + ")", NO_SUCH, () -> x.partsIf(r));
        }
        bridges();
    }

    private static void bridges() {
        promise = 30;
        due("bridge of all", new SwapChoices().bridge(), 0);
        due("bridge of a chain", of(FOUR + "strike a c;strike b d;strike a d;").bridge(), 1);
        SwapChoices changed = new SwapChoices();
        changed.bridge();
        for (int c : new int[] {1, 2, 4, 5}) changed.strike(c, true);
        due("bridge after what it was before", changed.bridge(), 0);
        due("bridge of none", of(FOUR + "rule weight > 99;").bridge(), -1);
        due("bridge of two apart", of(FOUR + "rule number = 0 or number = 3;").bridge(), 0);
        due("bridge of one alone", of(FOUR + "rule number = 4;").bridge(), 4);
        // 0 a b alone; 6 d e - 7 c e - 3 c d round: 3 keeps nothing together, so the smallest that loses no part.
        SwapChoices x = of("choose 2;thing a 1;thing b 1;thing c 1;thing d 1;thing e 1;"
            + "rule number = 0 or number = 3 or number = 6 or number = 7;");
        due("parts", x.size(12), 2);
        due("bridge beside one alone", x.bridge(), 3);
        // The chain 0 - 1 - 7 - 6: 1 and 7 alike.
        SwapChoices chain = of("choose 2;thing a 1;thing b 1;thing c 1;thing d 1;thing e 1;"
            + "rule number < 2 or number = 6 or number = 7;");
        due("bridge of several", chain.bridge(), 1);
        // c e - a c - a b - b d - d f: one that is not an end makes two of it.
        SwapChoices star = of("choose 2;thing a 1;thing b 1;thing c 1;thing d 1;thing e 1;thing f 1;"
            + "rule all(a b) or all(a c) or all(b d) or all(c e) or all(d f);");
        int best = star.bridge();
        int parts = 0;
        for (int c = 0; c < star.size(2); c++) {
            if (star.choice(c, 2) == 1) {
                star.strike(c, true);
                parts = Math.max(parts, star.size(12));
                star.undo();
            }
        }
        star.strike(best, true);
        due("parts without the bridge", star.size(12), parts);
    }

    private static void measures() {
        promise = 31;
        SwapChoices x = new SwapChoices();
        due("meanWeight", x.meanWeight(), 30.0 / 6.0);
        x.strike(3, true);
        x.strike(0, true);
        x.strike(1, true);
        due("meanWeight", x.meanWeight(), 15.0 / 3.0);
        x.setWeight(0, 2);
        due("meanWeight", x.meanWeight(), 17.0 / 3.0);
        due("meanWeight of none", of(THREE + "rule weight > 99;").meanWeight(), 0.0);
        promise = 32;
        due("visitedShare", x.visitedShare(), 0.0f);
        x.step();
        due("visitedShare", x.visitedShare(), 1.0f / 3.0f);
        x.steps(2);
        due("visitedShare", x.visitedShare(), 1.0f);
        x.strike(0, false);
        due("visitedShare", x.visitedShare(), 3.0f / 4.0f);
        x.strike(2, true);
        due("visitedShare with a VISITED one that is not allowed", x.visitedShare(), 2.0f / 3.0f);
        due("visitedShare of none", of(THREE + "rule weight > 99;").visitedShare(), 1.0f);
    }

    // ---- promises 33 to 43

    private static void stepAndSteps() {
        promise = 33;
        SwapChoices x = of(THREE + "strike b c;");
        due("step", x.step(), 0);
        int[] sizes = {3, 2, 3, 2, 1, 1, 0, 0, 0, 0, 1, 0, 1, 1};
        for (int what = 0; what < sizes.length; what++) due("size(" + what + ")", x.size(what), sizes[what]);
        due("step", x.step(), 2);
        due("swaps", x.size(11), 1);
        due("step at the end", x.step(), -2);
        due("undoCount", x.undoCount(), 2);
        due("steps", x.size(10), 2);
        promise = 34;
        SwapChoices y = new SwapChoices();
        due("steps(4)", y.steps(4), 4);
        due("NOW", y.size(9), 3);
        due("swaps", y.size(11), 3);
        due("steps(200)", y.steps(200), 2);
        due("steps at the end", y.steps(1), 0);
        due("undoCount", y.undoCount(), 3);
        due("steps", y.size(10), 6);
        due("undo", y.undo(), 2);
        due("undo", y.undo(), 1);
        due("steps after undo", y.size(10), 4);
        for (int most : new int[] {0, -1, 201, Integer.MAX_VALUE, Integer.MIN_VALUE}) {
            dueThrow("steps(" + most + ")", ILLEGAL, () -> y.steps(most));
        }
        due("undoCount after exceptions", y.undoCount(), 1);
        SwapChoices big = of("choose 5;thing a 1;thing b 1;thing c 1;thing d 1;thing e 1;thing f 1;thing g 1;thing h 1;"
            + "thing i 1;thing j 1;");
        due("steps(200) of 252", big.steps(200), 200);
        due("steps(200) of 252", big.steps(200), 52);
        due("swaps of all", big.size(11), 251);
    }

    private static void swap() {
        promise = 35;
        SwapChoices x = of(FOUR + "strike b d;");
        due("swap when NOW is NONE", x.swap(0, 2), -2);
        due("swap that is none when NOW is NONE", x.swap(2, 2), -2);
        x.step();
        due("swap of one that is not in", x.swap(2, 3), -3);
        due("swap for one that is in", x.swap(0, 1), -3);
        due("swap for itself", x.swap(0, 0), -3);
        due("swap to one that is struck out", x.swap(0, 3), -4);
        due("undoCount", x.undoCount(), 1);
        due("swap", x.swap(0, 2), 1);
        due("NOW", x.size(9), 1);
        due("steps", x.size(10), 2);
        due("swaps", x.size(11), 1);
        due("VISITED", x.choice(1, 3), 1);
        due("trail", x.trail(1), 1);
        due("undoCount", x.undoCount(), 2);
        due("swap back", x.swap(2, 0), -5);
        x.strike(0, true);
        due("swap to one that is VISITED and struck out", x.swap(2, 0), -4);
        for (int t : new int[] {-1, 4, 33, Integer.MAX_VALUE, Integer.MIN_VALUE}) {
            dueThrow("swap(" + t + ", 0)", NO_SUCH, () -> x.swap(t, 0));
            dueThrow("swap(1, " + t + ")", NO_SUCH, () -> x.swap(1, t));
            dueThrow("swap when NOW is NONE", NO_SUCH, () -> new SwapChoices().swap(0, t));
        }
        due("undoCount", x.undoCount(), 3);
    }

    private static void backAndReset() {
        promise = 36;
        SwapChoices x = of(FOUR + "strike b c;strike a c;");
        due("back without a trail", x.back(), -2);
        due("undoCount", x.undoCount(), 0);
        x.steps(2);
        due("swaps", x.size(11), 2);
        due("back", x.back(), 1);
        due("NOW", x.size(9), 0);
        due("swaps", x.size(11), 0);
        due("steps", x.size(10), 1);
        due("VISITED", x.choice(3, 3), 0);
        due("next", x.next(), 3);
        due("back", x.back(), 0);
        due("NOW", x.size(9), -1);
        due("back without a trail", x.back(), -2);
        due("undoCount", x.undoCount(), 3);
        promise = 37;
        x.steps(3);
        due("reset", x.reset(), 3);
        int[] sizes = {4, 2, 6, 4, 0, 2, 0, 0, 0, -1, 0, 0, 1, 4};
        for (int what = 0; what < sizes.length; what++) due("size(" + what + ")", x.size(what), sizes[what]);
        due("reset again", x.reset(), 0);
        due("undoCount", x.undoCount(), 6);
        x.undo();
        x.undo();
        due("trail after undo", x.trail(2), 4);
    }

    private static void setters() {
        promise = 38;
        SwapChoices x = new SwapChoices();
        due("setMode", x.setMode(2), 0);
        due("setMode", x.setMode(2), 2);
        due("setMode", x.setMode(1), 2);
        due("size(8)", x.size(8), 1);
        due("undoCount", x.undoCount(), 3);
        for (int m : FAR_OUT) dueThrow("setMode(" + m + ")", ILLEGAL, () -> x.setMode(m));
        dueThrow("setMode(3)", ILLEGAL, () -> x.setMode(3));
        promise = 39;
        add(x, "weight > 5");
        due("allowed", x.size(3), 2);
        due("setWeight", x.setWeight(0, 99), 1);
        due("weight", x.weight(0), 99);
        due("choice's weight", x.choice(0, 1), 101);
        due("allowed after it", x.size(3), 5);
        due("setWeight", x.setWeight(0, 0), 99);
        due("setWeight", x.setWeight(0, 0), 0);
        due("undoCount", x.undoCount(), 7);
        for (int t : new int[] {-1, 4, Integer.MAX_VALUE, Integer.MIN_VALUE}) {
            dueThrow("setWeight(" + t + ", 1)", NO_SUCH, () -> x.setWeight(t, 1));
            dueThrow("setWeight(" + t + ", 100)", NO_SUCH, () -> x.setWeight(t, 100));
        }
        for (int w : new int[] {-1, 100, Integer.MAX_VALUE, Integer.MIN_VALUE}) {
            dueThrow("setWeight(0, " + w + ")", ILLEGAL, () -> x.setWeight(0, w));
        }
        due("undoCount", x.undoCount(), 7);
    }

    private static void addRule() {
        promise = 40;
        SwapChoices x = new SwapChoices();
        due("addRule", add(x, "not a"), 0);
        due("addRule", add(x, "b or c"), 1);
        due("rules on", x.size(7), 2);
        due("allowed", x.size(3), 3);
        due("tokens", x.rule(1, 3), 3);
        due("feed", x.feed(0, 0, 0, 0, 0), 20);
        due("addRule with an error", x.addRule(20), -11);
        due("feed after an error", x.feed(0, 0, 0, 0, 0), 20);
        due("undoCount", x.undoCount(), 2);
        for (int length : new int[] {-1, 21, Integer.MAX_VALUE, Integer.MIN_VALUE}) {
            dueThrow("addRule(" + length + ")", ILLEGAL, () -> x.addRule(length));
        }
        due("feed after exceptions", x.feed(0, 0, 0, 0, 0), 40);
        x.addRule(0);
        for (int i = 2; i < 10; i++) due("addRule", add(x, "a or not a"), i);
        fed(x, "a");
        due("the 11th rule", x.addRule(1), -2);
        due("feed after -2", x.feed(0, 0, 0, 0, 0), 40);
        dueThrow("addRule(41) with 10 rules", ILLEGAL, () -> x.addRule(41));
        due("undoCount", x.undoCount(), 10);
        due("dropRule", x.dropRule(0), 9);
        due("addRule of what stayed", x.addRule(1), 9);
        due("allowed", x.size(3), 2);
        SwapChoices often = new SwapChoices();
        for (int i = 0; i < 80; i++) {
            add(often, "b or c or b or c or b or c or b or c or b or c");
            often.dropRule(0);
        }
        add(often, "a");
        due("allowed after many tests", allowed(often), "025");
        due("tokens after many tests", often.rule(0, 3), 1);
        due("a long test", add(new SwapChoices(), "a or b or c or d or a or b or c or d or a or b or c or d or a or b or c "
            + "or d or a or b or c or d or a or b or c or d or a or b or c or d or a or b or c or d or a or b or c or d "
            + "or a or b or c or d or a or b or c or d or a or b or c or d or a or b or c or d"), 0);
    }

    private static void dropAndSwitch() {
        promise = 41;
        SwapChoices x = of(FOUR + "rule a;rule b;rule c;");
        x.switchRule(2);
        due("allowed", x.size(3), 1);
        due("dropRule(1)", x.dropRule(1), 2);
        due("allowed", x.size(3), 3);
        due("on", x.rule(0, 0), 1);
        due("on", x.rule(1, 0), 0);
        due("what is rule 1 now", x.holds(1, 1), true);
        due("what is rule 1 now", x.holds(1, 0), false);
        due("dropRule(0)", x.dropRule(0), 1);
        due("on", x.rule(0, 0), 0);
        due("allowed", x.size(3), 6);
        promise = 42;
        due("switchRule", x.switchRule(0), 3);
        due("on", x.rule(0, 0), 1);
        due("switchRule", x.switchRule(0), 6);
        due("on", x.size(7), 0);
        due("undoCount", x.undoCount(), 5);
        promise = 41;
        due("dropRule(0)", x.dropRule(0), 0);
        due("addRule after it", add(x, "d"), 0);
        due("on", x.rule(0, 0), 1);
        for (int r : new int[] {-1, 1, 32, Integer.MAX_VALUE, Integer.MIN_VALUE}) {
            promise = 41;
            dueThrow("dropRule(" + r + ")", NO_SUCH, () -> x.dropRule(r));
            promise = 42;
            dueThrow("switchRule(" + r + ")", NO_SUCH, () -> x.switchRule(r));
        }
        due("undoCount", x.undoCount(), 7);
    }

    private static void strike() {
        promise = 43;
        SwapChoices x = new SwapChoices();
        due("strike", x.strike(2, true), true);
        due("strike", x.strike(2, true), false);
        due("struck", x.size(5), 1);
        due("allowed", x.size(3), 5);
        due("choice(2, 4)", x.choice(2, 4), 1);
        due("strike", x.strike(2, false), true);
        due("strike", x.strike(2, false), false);
        due("struck", x.size(5), 0);
        due("undoCount", x.undoCount(), 4);
        for (int c : new int[] {-1, 6, Integer.MAX_VALUE, Integer.MIN_VALUE}) {
            dueThrow("strike(" + c + ")", NO_SUCH, () -> x.strike(c, true));
        }
        x.steps(3);
        due("strike of a VISITED one", x.strike(1, true), true);
        due("VISITED", x.choice(1, 3), 1);
        due("trail", x.trail(1), 1);
    }

    // ---- promises 44 to 50

    private static void many() {
        promise = 44;
        SwapChoices x = of(FOUR + "strike a b;rule not d;");
        due("many of all", many(x, "a", false), 3);
        due("many of the allowed", many(x, "a", true), 1);
        due("many by weight", many(x, "weight < 6", false), 4);
        due("many by number", many(x, "number < 2", true), 1);
        due("feed after it", x.feed(0, 0, 0, 0, 0), 20);
        due("many with an error", x.many(20, true), -1000001);
        due("feed after an error", x.feed(0, 0, 0, 0, 0), 20);
        for (int length : new int[] {-1, 21, 201, Integer.MAX_VALUE, Integer.MIN_VALUE}) {
            dueThrow("many(" + length + ")", ILLEGAL, () -> x.many(length, true));
        }
        due("feed after exceptions", x.feed(0, 0, 0, 0, 0), 40);
        x.many(0, true);
        StringBuilder text = new StringBuilder("a");
        while (text.length() < 201) text.append(' ');
        fed(x, text.toString());
        dueThrow("many(201)", ILLEGAL, () -> x.many(201, false));
        due("many(200)", x.many(200, false), 3);
        due("rules", x.size(6), 1);
        due("undoCount", x.undoCount(), 0);
    }

    private static void format() {
        promise = 45;
        SwapChoices x = of("choose 2;thing gnu 1;thing ox 2;thing abcdef 3;strike ox abcdef;");
        due("format", shown(x, 0), "gnu ox");
        due("format", shown(x, 1), "ox abcdef-");
        x.steps(2);
        due("format", shown(x, 0), "gnu ox!");
        due("format", shown(x, 2), "gnu abcdef*!");
        x.strike(2, true);
        due("format", shown(x, 2), "gnu abcdef*!-");
        promise = 46;
        due("formattedByte", x.formattedByte(3), 32);
        due("formattedByte", x.formattedByte(12), 45);
        due("formattedByte behind", x.formattedByte(13), -1);
        for (int i : FAR_OUT) due("formattedByte(" + i + ")", x.formattedByte(i), -1);
        x.undo();
        x.saveSnapshot();
        x.restoreSnapshot();
        load(x, THREE);
        dueThrow("format(3)", NO_SUCH, () -> x.format(3));
        due("formattedByte after it", x.formattedByte(12), 45);
        promise = 45;
        for (int c : FAR_OUT) dueThrow("format(" + c + ")", NO_SUCH, () -> x.format(c));
        due("format of a shorter one", shown(x, 0), "a b");
        promise = 46;
        due("formattedByte behind", x.formattedByte(3), -1);
        SwapChoices big = of("choose 9;thing aaaaaa 1;thing bbbbbb 1;thing cccccc 1;thing dddddd 1;thing eeeeee 1;"
            + "thing ffffff 1;thing gggggg 1;thing hhhhhh 1;thing iiiiii 1;thing jjjjjj 1;");
        big.step();
        big.strike(0, true);
        due("format of the longest", shown(big, 0), "aaaaaa bbbbbb cccccc dddddd eeeeee ffffff gggggg hhhhhh iiiiii*!-");
    }

    private static void undo() {
        promise = 47;
        SwapChoices x = new SwapChoices();
        due("undoCount", x.undoCount(), 0);
        for (int i = 1; i <= 12; i++) {
            x.setWeight(0, i);
            due("undoCount", x.undoCount(), Math.min(i, 10));
        }
        promise = 48;
        for (int i = 1; i <= 10; i++) {
            due("undo", x.undo(), 10 - i);
            due("weight", x.weight(0), 12 - i);
        }
        due("undo of nothing", x.undo(), -1);
        due("weight", x.weight(0), 2);
        x.setMode(1);
        x.setMode(2);
        due("undo", x.undo(), 1);
        x.setWeight(0, 77);
        due("undo", x.undo(), 1);
        due("mode", x.size(8), 1);
        due("undo", x.undo(), 0);
        due("mode", x.size(8), 0);
    }

    private static void undoRestores() {
        promise = 48;
        String[] operations = {"step", "steps", "swap", "back", "reset", "setMode", "setWeight", "addRule", "dropRule",
            "switchRule", "strike"};
        for (String operation : operations) {
            SwapChoices x = of(FOUR + "rule a or b;rule weight < 7;");
            x.step();
            String before = all(x);
            fed(x, "c or d");
            switch (operation) {
                case "step": x.step(); break;
                case "steps": x.steps(3); break;
                case "swap": x.swap(0, 3); break;
                case "back": x.back(); break;
                case "reset": x.reset(); break;
                case "setMode": x.setMode(2); break;
                case "setWeight": x.setWeight(1, 50); break;
                case "addRule": x.addRule(6); break;
                case "dropRule": x.dropRule(0); break;
                case "switchRule": x.switchRule(1); break;
                default: x.strike(0, true); break;
            }
            due(operation + " changes something", all(x).equals(before), false);
            x.format(1);
            int shown = x.formattedByte(3);
            int at = x.errorPosition();
            int fed = x.feed(0, 0, 0, 0, 0);
            due("undo of " + operation, x.undo(), 1);
            due("all after undo of " + operation, all(x), before);
            due("text of format", x.formattedByte(3), shown);
            due("errorPosition", x.errorPosition(), at);
            due("feed", x.feed(0, 0, 0, 0, 0), fed + 20);
            x.many(0, true);
        }
    }

    private static void snapshot() {
        promise = 49;
        SwapChoices x = of(FOUR + "rule a or b;");
        x.steps(2);
        x.setMode(1);
        x.saveSnapshot();
        String before = all(x);
        due("undoCount", x.undoCount(), 2);
        x.reset();
        x.dropRule(0);
        x.setWeight(0, 9);
        x.strike(4, true);
        promise = 50;
        due("restoreSnapshot", x.restoreSnapshot(), true);
        due("all", all(x), before);
        due("undoCount", x.undoCount(), 0);
        due("undo", x.undo(), -1);
        x.step();
        due("restoreSnapshot again", x.restoreSnapshot(), true);
        due("all", all(x), before);
        promise = 49;
        x.setMode(0);
        x.saveSnapshot();
        x.setMode(2);
        x.undo();
        x.undo();
        due("mode", x.size(8), 1);
        due("restoreSnapshot of the later one", x.restoreSnapshot(), true);
        due("mode", x.size(8), 0);
        promise = 50;
        SwapChoices y = new SwapChoices();
        y.setMode(1);
        due("restoreSnapshot without one", y.restoreSnapshot(), false);
        due("undoCount", y.undoCount(), 1);
        due("mode", y.size(8), 1);
        y.saveSnapshot();
        load(y, "choose");
        due("restoreSnapshot after a load with an error", y.restoreSnapshot(), true);
        load(y, THREE);
        due("restoreSnapshot after a load", y.restoreSnapshot(), false);
    }

    private static void constants() {
        promise = 1;
        due("NONE", SwapChoices.NONE, -1);
        due("HIDDEN", SwapChoices.HIDDEN, -1000000);
        due("exceptions are those of the library", new NoSuchElementException().getClass().getSimpleName(), NO_SUCH);
    }
}
