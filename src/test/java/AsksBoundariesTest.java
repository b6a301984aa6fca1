/** A test for each boundary that promises 1 to 32 name: the buffer, what is asked, what would be. */
public final class AsksBoundariesTest extends Checks {
    private static final String IF_RULE = "would be allowed if a rule was switched over.";

    public static void main(String[] args) {
        texts();
        choices();
        rules();
        walks();
        ways();
        finish();
    }

    private static void texts() {
        sentence("Creates choices as by the text \"choose 2;thing a 1;thing b 2;thing c 3;thing d 4;\", with an empty buffer.",
            AsksBoundariesTest::newObject);
        sentence("Appends 20 bytes to the buffer: the four bytes of each parameter, the most significant byte first.",
            AsksBoundariesTest::bytesOfFeed);
        sentence("NONE if it would exceed 800, and then nothing is appended.", AsksBoundariesTest::fullBuffer);
        sentence("Reads the first bytes of the buffer as a text, which replaces everything; the undo history and the snapshot are "
            + "discarded.", AsksBoundariesTest::replacesEverything);
        sentence("The buffer is empty afterwards, also after an error. - `length`: number of bytes to read Returns the number of "
            + "choices that are allowed;", AsksBoundariesTest::bufferAfterLoad);
        sentence("-10 minus the error code if the text has an error (then only the buffer and the error position change). Throws "
            + "`IllegalArgumentException` if length is negative or greater than the number of bytes in the buffer (nothing changes)",
            AsksBoundariesTest::loadWithAnError);
        sentence("if length is negative or greater than the number of bytes in the buffer (nothing changes)",
            AsksBoundariesTest::loadThatThrows);
        sentence("Returns the position of the error of the most recent call of load, addRule or many that read the buffer;",
            AsksBoundariesTest::errorPositions);
        sentence("NONE if that call had no error, or there was no such call.", AsksBoundariesTest::noErrorPosition);
    }

    private static void choices() {
        sentence("what 0 N, 1 K, 2 choices, 3 allowed ones, 4 VISITED ones, 5 those that are struck out, 6 rules, 7 rules that are "
            + "on, 8 MODE, 9 NOW, 10 steps, 11 swaps, 12 parts, 13 choices that are allowed and not VISITED.",
            AsksBoundariesTest::sizes);
        sentence("Throws `IllegalArgumentException` if what is out of range ## Promise 6: weight",
            AsksBoundariesTest::sizeOutOfRange);
        sentence("Returns the weight of a thing. Throws `NoSuchElementException` if there is no such thing",
            AsksBoundariesTest::weightOfNone);
        sentence("Returns the letter (its byte) at index of the name of a thing; NONE if index is out of range.",
            AsksBoundariesTest::nameBytes);
        sentence("5 the thing that goes out by the swap from the choice before it (from the last one for the choice 0), 6 the thing "
            + "that comes in by this swap,", AsksBoundariesTest::swapFromBefore);
        sentence("7 its part (NONE if it is not allowed), 8 how many neighbours it has (0 if it is not allowed), 9 its place on the "
            + "trail (from 0; NONE).", AsksBoundariesTest::choiceNotAllowed);
        sentence("Throws `NoSuchElementException` if there is no such choice (checked first) Throws `IllegalArgumentException` if "
            + "what is out of range", AsksBoundariesTest::choiceThatThrows);
        sentence("Returns the number of the choice with these things; NONE if they are not K of the things.",
            AsksBoundariesTest::numberOfNone);
        sentence("Returns the distance of two choices. Throws `NoSuchElementException` if there is no such choice",
            AsksBoundariesTest::distanceOfNone);
        sentence("Returns the number of the choice by one swap of a choice; NONE if out is not in it, or in is in it.",
            AsksBoundariesTest::swappedToNone);
        sentence("Throws `NoSuchElementException` if there is no such choice or thing", AsksBoundariesTest::swappedThatThrows);
        sentence("Returns the smallest number above that of a choice that is allowed, or, with up false, the greatest below it; NONE "
            + "if there is none.", AsksBoundariesTest::nearest);
        sentence("Returns how many allowed choices have a thing.", AsksBoundariesTest::with);
        sentence("Returns the allowed choice with the greatest weight, of several the smallest number; NONE if none is allowed.",
            AsksBoundariesTest::heaviest);
    }

    private static void rules() {
        sentence("Returns whether a rule holds for a choice (on or off).", AsksBoundariesTest::holds);
        sentence("2 choices that it alone leaves out (that would be allowed if it was off, and are not now), 3 the words and signs "
            + "of its test (its tokens).", AsksBoundariesTest::rule);
        sentence("Throws `NoSuchElementException` if there is no such rule (checked first) Throws `IllegalArgumentException` if "
            + "what is out of range", AsksBoundariesTest::ruleThatThrows);
        sentence("Returns the first of these that holds: 1 it is struck out; 100 plus the smallest rule that is on and does not hold "
            + "for it; 2 it is VISITED; 3 another one is the next one; 0 it is the next one.", AsksBoundariesTest::why);
        sentence("Returns how many rules that are on do not hold for a choice.", AsksBoundariesTest::against);
    }

    private static void walks() {
        sentence("Returns the next choice; NONE if there is none.", AsksBoundariesTest::next);
        sentence("Returns the choice at a place of the trail (from 0); NONE if there is no such place.", AsksBoundariesTest::trail);
        sentence("Returns how many swaps there would be from now on until there is no next choice, if MODE was another one.",
            AsksBoundariesTest::swapsToEnd);
        sentence("Throws `IllegalArgumentException` if mode is out of range ## Promise 22: bestMode",
            AsksBoundariesTest::swapsToEndThatThrows);
        sentence("Returns the MODE with the fewest swapsToEnd, of several the smallest.", AsksBoundariesTest::bestMode);
        sentence("Returns the choice to which the i-th step from now (from 0) would go; NONE if there are not so many.",
            AsksBoundariesTest::ahead);
        sentence("Throws `IllegalArgumentException` if i is negative", AsksBoundariesTest::aheadThatThrows);
    }

    private static void ways() {
        sentence("Returns the length of the shortest way from an allowed choice to another one (0 to itself); NONE if one is not "
            + "allowed, or there is no way.", AsksBoundariesTest::far);
        sentence("Returns the choice to which the first swap of a shortest way from a choice to another one goes, of several the "
            + "smallest number; NONE if there is no way, or both are the same.", AsksBoundariesTest::toward);
        sentence("what 0 its smallest choice, 1 how many choices it has, 2 the greatest length of a shortest way from its smallest "
            + "choice to one of its choices.", AsksBoundariesTest::part);
        sentence("Throws `NoSuchElementException` if there is no such part (checked first) Throws `IllegalArgumentException` if what "
            + "is out of range", AsksBoundariesTest::partThatThrows);
        sentence("Returns how many choices " + IF_RULE, AsksBoundariesTest::allowedIf);
        sentence("Returns how many parts there would be if a rule was switched over.", AsksBoundariesTest::partsIf);
        sentence("Returns the rule that is on, without which the most choices would be allowed, of several the smallest; NONE if no "
            + "rule is on.", AsksBoundariesTest::strictest);
        sentence("if it was struck out, there would be the most parts; of several the smallest number; NONE if none is allowed.",
            AsksBoundariesTest::bridge);
        sentence("(both converted, then divided); 0 without any.", AsksBoundariesTest::meanWeight);
        sentence("(both converted, then divided); 1 without any.", AsksBoundariesTest::visitedShare);
    }

    // ---- promises 1 to 4

    private static void newObject() {
        due("all of a new one", all(new SwapChoices()), all(of(FOUR)));
        SwapChoices x = new SwapChoices();
        for (int length : new int[] {1, 20}) {
            dueThrow("load(" + length + ")", ILLEGAL, () -> x.load(length));
            dueThrow("addRule(" + length + ")", ILLEGAL, () -> x.addRule(length));
            dueThrow("many(" + length + ")", ILLEGAL, () -> x.many(length, true));
        }
        due("errorPosition", x.errorPosition(), -1);
        due("undoCount", x.undoCount(), 0);
        due("undo", x.undo(), -1);
        due("restoreSnapshot", x.restoreSnapshot(), false);
        due("formattedByte(0)", x.formattedByte(0), -1);
        due("back", x.back(), -2);
        due("swap", x.swap(0, 2), -2);
        due("load(0)", x.load(0), -11);
        due("many(0) of another one", new SwapChoices().many(0, true), -1000001);
        due("addRule(0) of another one", new SwapChoices().addRule(0), -11);
        due("feed of another one", new SwapChoices().feed(0, 0, 0, 0, 0), 20);
        // What each ask answers when it is the first call of all.
        due("nearest", new SwapChoices().nearest(5, false), 4);
        due("with", new SwapChoices().with(0), 3);
        due("heaviest", new SwapChoices().heaviest(), 3);
        due("why", new SwapChoices().why(0), 0);
        due("against", new SwapChoices().against(0), 0);
        due("next", new SwapChoices().next(), 0);
        due("swapsToEnd", new SwapChoices().swapsToEnd(2), 6);
        due("bestMode", new SwapChoices().bestMode(), 0);
        due("ahead", new SwapChoices().ahead(5), 5);
        due("far", new SwapChoices().far(0, 3), 2);
        due("toward", new SwapChoices().toward(3, 0), 1);
        due("part", new SwapChoices().part(0, 1), 6);
        due("neighbours", new SwapChoices().choice(0, 8), 4);
        due("strictest", new SwapChoices().strictest(), -1);
        due("bridge", new SwapChoices().bridge(), 0);
        due("meanWeight", new SwapChoices().meanWeight(), 5.0);
        due("visitedShare", new SwapChoices().visitedShare(), 0.0f);
        due("step", new SwapChoices().step(), 0);
        due("steps", new SwapChoices().steps(200), 6);
        due("format", new SwapChoices().format(0), 3);
        due("a constant", SwapChoices.NONE, -1);
        due("a constant", SwapChoices.HIDDEN, -1000000);
    }

    private static void bytesOfFeed() {
        // "a or", " b a", "nd c", " or ", "d   "
        SwapChoices x = new SwapChoices();
        x.feed(0x61206f72, 0x20622061, 0x6e642063, 0x206f7220, 0x64202020);
        due("tokens of the 20 bytes", x.addRule(20), 0);
        due("their number", x.rule(0, 3), 7);
        // A byte above 127, in each of the 20 places: no bit of it may reach the byte before it.
        for (int place = 0; place < 20; place++) {
            int[] five = {0x20202020, 0x20202020, 0x20202020, 0x20202020, 0x20202020};
            int shift = 24 - place % 4 * 8;
            five[place / 4] += (0xff - 0x20) << shift;
            x.feed(five[0], five[1], five[2], five[3], five[4]);
            due("many of a byte at " + place, x.many(20, true), -1000001);
            due("its place", x.errorPosition(), place);
        }
        x.feed(-1, MIN, MAX, 0, 1);
        due("many", x.many(20, true), -1000001);
        due("the place of the byte 255", x.errorPosition(), 0);
        x.feed(0x20202020, 0x20202020, 0x20202020, 0x20202020, 0x20202061);
        due("the last byte", x.many(20, false), 3);
    }

    private static void fullBuffer() {
        SwapChoices x = new SwapChoices();
        for (int i = 1; i <= 38; i++) due("feed " + i, x.feed(0x20202020, 0x20202020, 0x20202020, 0x20202020, 0x20202020), 20 * i);
        due("feed 39", x.feed(0x20202020, 0x20202020, 0x20202020, 0x20202020, 0x20202061), 780);
        due("feed 40, which fills it", x.feed(0x206f7220, 0x20202020, 0x20202020, 0x20202020, 0x20202062), 800);
        due("feed 41", x.feed(0x23232323, 0x23232323, 0x23232323, 0x23232323, 0x23232323), -1);
        due("feed 42", x.feed(0x23232323, 0x23232323, 0x23232323, 0x23232323, 0x23232323), -1);
        dueThrow("addRule(801)", ILLEGAL, () -> x.addRule(801));
        dueThrow("addRule(820)", ILLEGAL, () -> x.addRule(820));
        due("addRule of all 800", x.addRule(800), 0);
        due("it holds for", x.rule(0, 1), 5);
        due("feed of the emptied one", x.feed(0x61202020, 0x20202020, 0x20202020, 0x20202020, 0x20202020), 20);
        due("many of it", x.many(1, false), 3);
        StringBuilder whole = new StringBuilder("choose 1;thing a 1;thing b 2;rule b");
        while (whole.length() < 799) whole.append(' ');
        due("load of 800 bytes", load(x, whole + ";"), 1);
        due("load of 799 of 800 bytes", fed(x, whole + ";").load(799), -11);
        due("the end of 799 bytes", x.errorPosition(), 799);
    }

    private static void replacesEverything() {
        SwapChoices x = of("choose 5 mode 2;" + things(10) + "rule a;rule b;strike a b c d e;");
        x.steps(9);
        x.choice(0, 7);
        x.bridge();
        x.setWeight(3, 99);
        x.switchRule(1);
        x.saveSnapshot();
        due("load", load(x, FOUR), 6);
        due("undoCount", x.undoCount(), 0);
        due("undo", x.undo(), -1);
        due("restoreSnapshot", x.restoreSnapshot(), false);
        due("all", all(x), all(of(FOUR)));
        due("bridge", x.bridge(), 0);
        dueThrow("thing 4", NO_SUCH, () -> x.weight(4));
        dueThrow("choice 6", NO_SUCH, () -> x.choice(6, 0));
        dueThrow("rule 0", NO_SUCH, () -> x.holds(0, 0));
        due("a choice of before", x.numberOf(31), -1);
        due("nearest behind the last one", x.nearest(5, true), -1);
        due("with", x.with(3), 3);
        due("heaviest", x.heaviest(), 3);
        due("meanWeight", x.meanWeight(), 5.0);
        due("part", x.part(0, 1), 6);
        due("steps", x.steps(200), 6);
        // From few to many.
        SwapChoices y = of("choose 1;thing a 1;thing b 1;strike a;");
        y.choice(1, 8);
        y.step();
        due("load of 252", load(y, text(5, 10)), 252);
        due("neighbours", y.choice(251, 8), 25);
        due("parts", y.size(12), 1);
        due("swaps to the end", y.swapsToEnd(0), 251);
        due("struck out ones", y.size(5), 0);
        due("the greatest weight", y.choice(y.heaviest(), 1), 40);
    }

    private static void bufferAfterLoad() {
        SwapChoices x = fed(new SwapChoices(), FOUR + blanks(100));
        due("load of the first bytes", x.load(FOUR.length()), 6);
        dueThrow("load(1) then", ILLEGAL, () -> x.load(1));
        due("feed then", x.feed(0, 0, 0, 0, 0), 20);
        due("load of bytes 0", x.load(20), -11);
        dueThrow("load(1) after an error", ILLEGAL, () -> x.load(1));
        due("feed after an error", x.feed(0, 0, 0, 0, 0), 20);
        due("load(0)", x.load(0), -11);
        due("errorPosition of load(0)", x.errorPosition(), 0);
        dueThrow("load(1) after load(0)", ILLEGAL, () -> x.load(1));
        due("feed after load(0)", x.feed(0, 0, 0, 0, 0), 20);
        due("none is allowed", of(THREE + "rule weight > 99;").size(3), 0);
        due("load answers 0 then", load(new SwapChoices(), THREE + "rule weight > 99;"), 0);
        due("load answers 1", load(new SwapChoices(), THREE + "rule number = 2;"), 1);
        due("load answers 252", load(new SwapChoices(), text(5, 10)), 252);
    }

    private static void loadWithAnError() {
        String[] wrong = {"", "choose 0;", "choose 1 mode 2;thing thing 1;", "choose 1 mode 2;thing x 9;thing y 9;rule z;",
            text(9, 10) + "thing k 1;", "choose 2 mode 2;thing x 9;thing y 9;", "choose 1;thing x 9;thing y 9;strike x;strike y;rule "
            + "not not not not not not not x;"};
        int[] due = {-11, -12, -13, -14, -15, -16, -17};
        int[] at = {0, 7, 22, 41, text(9, 10).length(), 36, 76};
        for (int i = 0; i < wrong.length; i++) {
            SwapChoices x = of(FOUR + "rule not a or b;strike c d;");
            x.steps(2);
            x.saveSnapshot();
            x.setWeight(1, 40);
            x.format(0);
            String before = brief(x);
            due("load of " + wrong[i], load(x, wrong[i]), due[i]);
            due("errorPosition", x.errorPosition(), at[i]);
            due("all but it", brief(x), before);
            due("names", x.nameByte(3, 0), (int) 'd');
            due("the text of format", x.formattedByte(2), (int) 'b');
            due("ways", x.far(0, 1), 1);
            due("feed", x.feed(0, 0, 0, 0, 0), 20);
            due("undo", x.undo(), 1);
            due("what it took back", x.weight(1), 2);
            due("restoreSnapshot", x.restoreSnapshot(), true);
            due("its trail", trailOf(x), "0 1 ");
        }
    }

    private static void loadThatThrows() {
        for (int length : new int[] {-1, MIN, 41, 60, 800, MAX}) {
            SwapChoices x = fed(of(FOUR + "rule a;"), "choose 1;thing x 1;thing y 1;strike x;");
            x.step();
            String before = brief(x);
            dueThrow("load(" + length + ") of 40", ILLEGAL, () -> x.load(length));
            due("all then", brief(x), before);
            due("errorPosition", x.errorPosition(), -1);
            due("load(40) of the same bytes", x.load(40), 1);
        }
        SwapChoices y = new SwapChoices();
        add(y, "a e");
        dueThrow("load(1) of none", ILLEGAL, () -> y.load(1));
        due("errorPosition stays", y.errorPosition(), 2);
    }

    private static void errorPositions() {
        SwapChoices x = new SwapChoices();
        load(x, "choose 0;");
        due("of load", x.errorPosition(), 7);
        add(x, "a or e");
        due("of addRule", x.errorPosition(), 5);
        many(x, "a e", true);
        due("of many", x.errorPosition(), 2);
        dueThrow("load(1)", ILLEGAL, () -> x.load(1));
        dueThrow("addRule(1)", ILLEGAL, () -> x.addRule(1));
        dueThrow("many(1)", ILLEGAL, () -> x.many(1, true));
        due("after calls that did not read", x.errorPosition(), 2);
        for (int i = 0; i < 10; i++) add(x, "a");
        many(x, "(e", true);
        due("addRule with ten rules", add(x, "a"), -2);
        due("after a call that did not read", x.errorPosition(), 1);
        x.step();
        x.reset();
        x.undo();
        x.saveSnapshot();
        x.restoreSnapshot();
        x.format(0);
        due("after calls of other kinds", x.errorPosition(), 1);
    }

    private static void noErrorPosition() {
        SwapChoices x = new SwapChoices();
        due("of a new one", x.errorPosition(), -1);
        dueThrow("load(1)", ILLEGAL, () -> x.load(1));
        due("after a call that did not read", x.errorPosition(), -1);
        many(x, "", true);
        due("of a text without bytes", x.errorPosition(), 0);
        many(x, "a", true);
        due("of many without an error", x.errorPosition(), -1);
        many(x, "e", true);
        add(x, "a");
        due("of addRule without an error", x.errorPosition(), -1);
        many(x, "e", true);
        load(x, FOUR);
        due("of load without an error", x.errorPosition(), -1);
    }

    // ---- promises 5 to 14

    private static void sizes() {
        int[] first = {4, 2, 6, 6, 0, 0, 0, 0, 0, -1, 0, 0, 1, 6};
        int[] none = {4, 2, 6, 0, 0, 0, 1, 1, 0, -1, 0, 0, 0, 0};
        int[] most = {10, 5, 252, 252, 252, 0, 10, 10, 0, 251, 252, 251, 1, 0};
        int[] few = {2, 1, 2, 0, 2, 2, 0, 0, 2, 1, 2, 1, 0, 0};
        SwapChoices x = of(FOUR + "rule weight = 0;");
        SwapChoices big = of(text(5, 10) + "rule a or not a;".repeat(10));
        big.steps(200);
        big.steps(200);
        SwapChoices small = of("choose 1 mode 2;thing a 0;thing b 0;");
        small.steps(2);
        small.strike(0, true);
        small.strike(1, true);
        for (int what = 0; what < 14; what++) {
            due("size(" + what + ") of a new one", new SwapChoices().size(what), first[what]);
            due("size(" + what + ") when none is allowed", x.size(what), none[what]);
            due("size(" + what + ") of the most", big.size(what), most[what]);
            due("size(" + what + ") of two struck out ones", small.size(what), few[what]);
        }
        SwapChoices nine = of(text(9, 10));
        due("size(0) of 10 things", nine.size(0), 10);
        due("size(1) of K 9", nine.size(1), 9);
    }

    private static void sizeOutOfRange() {
        SwapChoices x = new SwapChoices();
        for (int what : FAR_OUT) dueThrow("size(" + what + ")", ILLEGAL, () -> x.size(what));
        dueThrow("size(14)", ILLEGAL, () -> x.size(14));
        due("size(0)", x.size(0), 4);
        due("size(13)", x.size(13), 6);
    }

    private static void weightOfNone() {
        SwapChoices x = of(text(1, 10));
        due("weight of the last one", x.weight(9), 10);
        for (int t : new int[] {-1, 10, 32, MIN, MAX}) dueThrow("weight(" + t + ")", NO_SUCH, () -> x.weight(t));
        load(x, "choose 1;thing x 1;thing y 1;");
        dueThrow("weight of a thing that is gone", NO_SUCH, () -> x.weight(2));
    }

    private static void nameBytes() {
        SwapChoices x = of("choose 1;thing azaaza 1;thing z 1;");
        String name = "azaaza";
        for (int i = 0; i < 6; i++) due("nameByte(0, " + i + ")", x.nameByte(0, i), (int) name.charAt(i));
        due("behind six letters", x.nameByte(0, 6), -1);
        due("of one letter", x.nameByte(1, 0), (int) 'z');
        due("behind one letter", x.nameByte(1, 1), -1);
        due("far behind one letter", x.nameByte(1, 5), -1);
        for (int i : FAR_OUT) due("nameByte(0, " + i + ")", x.nameByte(0, i), -1);
        for (int t : new int[] {-1, 2, MIN, MAX}) {
            dueThrow("nameByte(" + t + ", 0)", NO_SUCH, () -> x.nameByte(t, 0));
            dueThrow("nameByte(" + t + ", -1)", NO_SUCH, () -> x.nameByte(t, -1));
        }
    }

    private static void swapFromBefore() {
        // a b, b c, a c, c d, b d, a d
        SwapChoices x = of(FOUR + "strike b c;");
        String out = "";
        String in = "";
        for (int c = 0; c < 6; c++) {
            out += (char) ('a' + x.choice(c, 5));
            in += (char) ('a' + x.choice(c, 6));
        }
        due("what goes out, round", out, "dabacb");
        due("what comes in, round", in, "bcadba");
        SwapChoices two = of(text(1, 2));
        due("out, for 0 of two", two.choice(0, 5), 1);
        due("in, for 0 of two", two.choice(0, 6), 0);
        due("out, for 1 of two", two.choice(1, 5), 0);
        due("in, for 1 of two", two.choice(1, 6), 1);
        SwapChoices nine = of(text(9, 10));
        due("out, for 0 of 9 of 10", nine.choice(0, 5), 9);
        due("in, for 0 of 9 of 10", nine.choice(0, 6), 8);
        SwapChoices big = of(text(5, 10));
        int last = big.choice(251, 0);
        due("from the last of 252", last - (1 << big.choice(0, 5)) + (1 << big.choice(0, 6)), big.choice(0, 0));
    }

    private static void choiceNotAllowed() {
        SwapChoices x = of(FOUR + "rule not all(b c);strike a b;");
        int[][] due = {{0, -1, 0, -1}, {1, -1, 0, -1}, {2, 0, 2, 0}, {3, 0, 3, -1}, {4, 0, 2, -1}, {5, 0, 3, -1}};
        x.step();
        for (int[] d : due) {
            for (int i = 1; i < 4; i++) due("choice(" + d[0] + ", " + (6 + i) + ")", x.choice(d[0], 6 + i), d[i]);
        }
        x.strike(2, true);
        due("the part of a VISITED one that is struck out", x.choice(2, 7), -1);
        due("its neighbours", x.choice(2, 8), 0);
        due("its place", x.choice(2, 9), 0);
        due("VISITED", x.choice(2, 3), 1);
        x.back();
        due("the place of one that was taken back", x.choice(2, 9), -1);
        due("it is not VISITED", x.choice(2, 3), 0);
        SwapChoices big = of(text(5, 10));
        big.steps(200);
        big.steps(200);
        due("the last place", big.choice(251, 9), 251);
    }

    private static void choiceThatThrows() {
        SwapChoices x = new SwapChoices();
        for (int c : new int[] {-1, 6, 252, MIN, MAX}) {
            dueThrow("choice(" + c + ", 0)", NO_SUCH, () -> x.choice(c, 0));
            for (int what : new int[] {-1, 10, MIN, MAX}) dueThrow("choice(" + c + ", " + what + ")", NO_SUCH, () -> x.choice(c, what));
        }
        for (int c : new int[] {0, 5}) {
            for (int what : new int[] {-1, 10, MIN, MAX}) dueThrow("choice(" + c + ", " + what + ")", ILLEGAL, () -> x.choice(c, what));
        }
        due("choice(5, 9)", x.choice(5, 9), -1);
    }

    private static void numberOfNone() {
        SwapChoices x = new SwapChoices();
        due("the first one", x.numberOf(3), 0);
        due("the last one", x.numberOf(9), 5);
        for (int bits : new int[] {0, 1, 2, 4, 8, 7, 11, 15, 16, 17, 20, 24, 48, 512, 513, 768, 1023, 1024, 1025, 1027, 3 | 1 << 30,
            3 | 1 << 31, -1, MIN, MAX}) due("numberOf(" + bits + ")", x.numberOf(bits), -1);
        due("one that is struck out", of(FOUR + "strike a b;").numberOf(3), 0);
        SwapChoices ten = of(text(9, 10));
        due("all ten", ten.numberOf(1023), -1);
        due("all but the first", ten.numberOf(1022), 5);
        due("eight", ten.numberOf(255), -1);
        due("the last thing alone of 10", of(text(1, 10)).numberOf(512), 9);
    }

    private static void distanceOfNone() {
        SwapChoices x = new SwapChoices();
        due("distance(5, 5)", x.distance(5, 5), 0);
        for (int c : new int[] {-1, 6, MIN, MAX}) {
            dueThrow("distance(0, " + c + ")", NO_SUCH, () -> x.distance(0, c));
            dueThrow("distance(" + c + ", 0)", NO_SUCH, () -> x.distance(c, 0));
            dueThrow("distance(" + c + ", " + c + ")", NO_SUCH, () -> x.distance(c, c));
        }
    }

    private static void swappedToNone() {
        SwapChoices x = of(FOUR + "strike b c;");
        for (int out = 0; out < 4; out++) {
            for (int in = 0; in < 4; in++) {
                // Of 0 a b.
                int due = out > 1 || in < 2 ? -1 : x.numberOf(3 - (1 << out) + (1 << in));
                due("swapped(0, " + out + ", " + in + ")", x.swapped(0, out, in), due);
            }
        }
        due("to one that is struck out", x.swapped(0, 0, 2), 1);
        due("from one that is struck out", x.swapped(1, 2, 0), 0);
        SwapChoices two = of(text(1, 2));
        due("of two", two.swapped(0, 0, 1), 1);
        due("of two, back", two.swapped(1, 1, 0), 0);
        due("of two, itself", two.swapped(0, 0, 0), -1);
    }

    private static void swappedThatThrows() {
        SwapChoices x = new SwapChoices();
        for (int i : new int[] {-1, MIN, MAX, 32}) {
            dueThrow("swapped(" + i + ", 0, 2)", NO_SUCH, () -> x.swapped(i, 0, 2));
            dueThrow("swapped(0, " + i + ", 2)", NO_SUCH, () -> x.swapped(0, i, 2));
            dueThrow("swapped(0, 0, " + i + ")", NO_SUCH, () -> x.swapped(0, 0, i));
            dueThrow("swapped(0, 2, " + i + "), where out is not in it", NO_SUCH, () -> x.swapped(0, 2, i));
        }
        dueThrow("swapped(6, 0, 2)", NO_SUCH, () -> x.swapped(6, 0, 2));
        dueThrow("swapped(0, 4, 2)", NO_SUCH, () -> x.swapped(0, 4, 2));
        dueThrow("swapped(0, 0, 4)", NO_SUCH, () -> x.swapped(0, 0, 4));
        due("swapped(5, 3, 2)", x.swapped(5, 3, 2), 2);
    }

    private static void nearest() {
        SwapChoices x = new SwapChoices();
        due("above the last one", x.nearest(5, true), -1);
        due("below the first one", x.nearest(0, false), -1);
        due("above the first one", x.nearest(0, true), 1);
        due("below the last one", x.nearest(5, false), 4);
        SwapChoices ends = of(FOUR + "rule number = 0 or number = 5;");
        due("over a gap, up", ends.nearest(0, true), 5);
        due("over a gap, down", ends.nearest(5, false), 0);
        due("from the gap, up", ends.nearest(2, true), 5);
        due("from the gap, down", ends.nearest(2, false), 0);
        SwapChoices one = of(FOUR + "rule number = 3;");
        due("not itself, up", one.nearest(3, true), -1);
        due("not itself, down", one.nearest(3, false), -1);
        SwapChoices none = of(FOUR + "rule number > 5;");
        due("none, up", none.nearest(0, true), -1);
        due("none, down", none.nearest(5, false), -1);
        for (int c : new int[] {-1, 6, MIN, MAX}) {
            dueThrow("nearest(" + c + ", true)", NO_SUCH, () -> x.nearest(c, true));
            dueThrow("nearest(" + c + ", false)", NO_SUCH, () -> x.nearest(c, false));
        }
        SwapChoices smaller = of(text(5, 10));
        smaller.size(3);
        load(smaller, FOUR);
        due("above the last one, behind a longer order", smaller.nearest(5, true), -1);
    }

    private static void with() {
        due("none is allowed", of(FOUR + "rule number > 5;").with(0), 0);
        due("all have it", of(FOUR + "rule d;").with(3), 3);
        due("none has it", of(FOUR + "rule not d;").with(3), 0);
        due("of 252", of(text(5, 10)).with(9), 126);
        SwapChoices x = new SwapChoices();
        for (int t : new int[] {-1, 4, 32, MIN, MAX}) dueThrow("with(" + t + ")", NO_SUCH, () -> x.with(t));
        SwapChoices smaller = of(text(5, 10));
        smaller.size(3);
        load(smaller, FOUR);
        due("behind a longer order", smaller.with(0), 3);
    }

    private static void heaviest() {
        due("none is allowed", of(FOUR + "rule number > 5;").heaviest(), -1);
        due("all weigh 0", of("choose 1;thing a 0;thing b 0;").heaviest(), 0);
        due("all weigh 0, without the first one", of("choose 1;thing a 0;thing b 0;strike a;").heaviest(), 1);
        due("two weigh alike", of("choose 1;thing a 1;thing b 99;thing c 99;").heaviest(), 1);
        due("the last one", of("choose 1;thing a 98;thing b 98;thing c 99;").heaviest(), 2);
        due("the heaviest one is struck out", of("choose 1;thing a 1;thing b 99;thing c 1;strike b;").heaviest(), 0);
        SwapChoices smaller = of(text(5, 10));
        smaller.heaviest();
        load(smaller, FOUR);
        due("behind a longer order", smaller.heaviest(), 3);
    }

    // ---- promises 15 to 18

    private static void holds() {
        SwapChoices x = of(FOUR + "rule a;strike a b;");
        due("for one that is struck out", x.holds(0, 0), true);
        due("on", x.holds(0, 1), false);
        x.switchRule(0);
        due("off", x.holds(0, 1), false);
        due("off, and it holds", x.holds(0, 5), true);
        for (int i : new int[] {-1, MIN, MAX, 32}) {
            dueThrow("holds(" + i + ", 0)", NO_SUCH, () -> x.holds(i, 0));
            dueThrow("holds(0, " + i + ")", NO_SUCH, () -> x.holds(0, i));
        }
        dueThrow("holds(1, 0)", NO_SUCH, () -> x.holds(1, 0));
        dueThrow("holds(0, 6)", NO_SUCH, () -> x.holds(0, 6));
        dueThrow("holds(0, 0) without rules", NO_SUCH, () -> new SwapChoices().holds(0, 0));
    }

    private static void rule() {
        SwapChoices x = of(FOUR + "rule a;rule b;strike a c;");
        // b alone is missing in 5 (2 is struck out), a alone in 1 and 4, both in 3.
        due("left out by a alone", x.rule(0, 2), 2);
        due("left out by b alone", x.rule(1, 2), 1);
        x.switchRule(1);
        due("by one that is off", x.rule(1, 2), 0);
        due("by a alone then", x.rule(0, 2), 3);
        x.switchRule(0);
        due("by one that is off, though it would leave some out", x.rule(0, 2), 0);
        SwapChoices tokens = of(FOUR + "rule a;rule not a;rule all(a);rule most 2(a b);rule weight<5;rule ((a));"
            + "rule not number=1 and(a or b);");
        int[] due = {1, 2, 4, 6, 3, 5, 10};
        for (int r = 0; r < due.length; r++) due("tokens of rule " + r, tokens.rule(r, 3), due[r]);
        add(tokens, "a");
        due("tokens of addRule", tokens.rule(7, 3), 1);
        SwapChoices big = new SwapChoices();
        String many = "any(" + "a ".repeat(397) + ")";
        due("addRule of " + many.length() + " bytes", add(big, many), 0);
        due("its tokens", big.rule(0, 3), 400);
        due("rule holds for none", of(FOUR + "rule number > 5;").rule(0, 1), 0);
        due("rule holds for all", of(FOUR + "rule number < 6;").rule(0, 1), 6);
        due("rule leaves all out", of(FOUR + "rule number > 5;").rule(0, 2), 6);
        SwapChoices longer = of(text(5, 10) + "rule weight = 0;");
        due("rule holds for none of 252", longer.rule(0, 1), 0);
        due("rule leaves out 252", longer.rule(0, 2), 252);
        load(longer, FOUR + "rule weight = 0;");
        due("rule leaves out 6 behind a longer order", longer.rule(0, 2), 6);
    }

    private static void ruleThatThrows() {
        SwapChoices x = of(FOUR + "rule a;");
        for (int r : new int[] {-1, 1, 10, 32, MIN, MAX}) {
            for (int what : new int[] {0, -1, 4, MIN, MAX}) {
                dueThrow("rule(" + r + ", " + what + ")", NO_SUCH, () -> x.rule(r, what));
            }
        }
        for (int what : new int[] {-1, 4, MIN, MAX}) dueThrow("rule(0, " + what + ")", ILLEGAL, () -> x.rule(0, what));
        due("rule(0, 3)", x.rule(0, 3), 1);
        x.dropRule(0);
        dueThrow("rule(0, 4) when it is dropped", NO_SUCH, () -> x.rule(0, 4));
    }

    private static void why() {
        SwapChoices x = of(FOUR + "rule weight<99;".repeat(8) + "rule not a;rule not b;");
        // 0 a b, 1 b c, 2 a c, 3 c d, 4 b d, 5 a d
        int[] due = {108, 109, 108, 0, 109, 108};
        for (int c = 0; c < 6; c++) due("why(" + c + ")", x.why(c), due[c]);
        x.switchRule(8);
        due("the rule is off", x.why(0), 109);
        due("another one is the next one", x.why(3), 3);
        due("the next one", x.why(2), 0);
        x.step();
        due("VISITED", x.why(2), 2);
        x.switchRule(8);
        due("VISITED, and a rule does not hold", x.why(2), 108);
        x.strike(2, true);
        due("VISITED, a rule does not hold, and struck out", x.why(2), 1);
        x.strike(3, true);
        due("the only one, struck out", x.why(3), 1);
        due("when there is no next one", x.next(), -1);
        x.switchRule(8);
        x.steps(9);
        due("VISITED at the end", x.why(5), 2);
        SwapChoices first = of(FOUR + "rule not a;rule not b;");
        due("the smallest rule of two", first.why(0), 100);
        first.switchRule(0);
        due("the smallest rule that is on", first.why(0), 101);
        first.switchRule(1);
        due("without one that is on", first.why(0), 0);
        for (int c : new int[] {-1, 6, MIN, MAX}) dueThrow("why(" + c + ")", NO_SUCH, () -> x.why(c));
    }

    private static void against() {
        SwapChoices x = of(FOUR + "rule not a;".repeat(10));
        due("ten", x.against(0), 10);
        due("none", x.against(1), 0);
        x.switchRule(9);
        due("nine", x.against(0), 9);
        x.strike(1, true);
        due("one that is struck out", x.against(1), 0);
        due("without rules", new SwapChoices().against(0), 0);
        for (int c : new int[] {-1, 6, MIN, MAX}) dueThrow("against(" + c + ")", NO_SUCH, () -> x.against(c));
    }

    // ---- promises 19 to 23

    private static void next() {
        for (int mode = 0; mode <= 2; mode++) {
            SwapChoices x = new SwapChoices();
            x.setMode(mode);
            x.steps(5);
            due("the last one is left", x.next() >= 0, true);
            x.step();
            due("none is left, by mode " + mode, x.next(), -1);
            x.back();
            due("one is left again", x.next() >= 0, true);
            SwapChoices none = of("choose 2 mode " + mode + ";" + things(4) + "rule number > 5;");
            due("none is allowed, by mode " + mode, none.next(), -1);
        }
    }

    private static void trail() {
        SwapChoices x = new SwapChoices();
        due("of an empty one", x.trail(0), -1);
        x.steps(2);
        due("the first one", x.trail(0), 0);
        due("the last one", x.trail(1), 1);
        due("behind the last one", x.trail(2), -1);
        for (int p : new int[] {-1, MIN, MAX, 252}) due("trail(" + p + ")", x.trail(p), -1);
        x.reset();
        due("after reset", x.trail(0), -1);
        SwapChoices full = of(text(5, 10));
        full.steps(200);
        full.steps(200);
        due("the last place of all", full.trail(251), 251);
        due("behind it", full.trail(252), -1);
        due("far behind it", full.trail(253), -1);
    }

    private static void swapsToEnd() {
        SwapChoices x = new SwapChoices();
        // By weight 0 2 1 5 4 3, with a 2 from 1 b c to 5 a d.
        for (int mode = 0; mode <= 2; mode++) due("from NONE by " + mode, x.swapsToEnd(mode), mode == 2 ? 6 : 5);
        x.steps(5);
        for (int mode = 0; mode <= 2; mode++) due("with one left by " + mode, x.swapsToEnd(mode), 1);
        x.step();
        for (int mode = 0; mode <= 2; mode++) due("at the end by " + mode, x.swapsToEnd(mode), 0);
        due("MODE is what it was", x.size(8), 0);
        SwapChoices none = of(FOUR + "rule number > 5;");
        for (int mode = 0; mode <= 2; mode++) due("with none by " + mode, none.swapsToEnd(mode), 0);
        SwapChoices one = of(FOUR + "rule number = 3;");
        due("one alone, from NONE", one.swapsToEnd(1), 0);
        SwapChoices gap = of(FOUR + "rule number = 0 or number = 3;");
        gap.step();
        for (int mode = 0; mode <= 2; mode++) due("over a distance of 2 by " + mode, gap.swapsToEnd(mode), 2);
        SwapChoices round = of(FOUR + "strike a b;strike b c;strike a c;");
        round.step();
        for (int c = 0; c < 3; c++) round.strike(c, false);
        // From 3 c d: by number 4 5 0 1 2; by distance 1 0 2 5 4; by weight 0 (3) 2 (4) 1 (5) 5 (5) 4 (6).
        due("round the end", round.swapsToEnd(0), 5);
        due("by distance", round.swapsToEnd(1), 5);
        due("by weight", round.swapsToEnd(2), 2 + 1 + 1 + 2 + 1);
        SwapChoices all = of(text(5, 10));
        due("of 252 by number", all.swapsToEnd(0), 251);
        due("of 252 by weight is that of the steps", all.swapsToEnd(2), swapsByWalk(2));
        due("of 252 by distance is that of the steps", all.swapsToEnd(1), swapsByWalk(1));
    }

    private static int swapsByWalk(int mode) {
        SwapChoices x = of(text(5, 10));
        x.setMode(mode);
        x.steps(200);
        x.steps(200);
        return x.size(11);
    }

    private static void swapsToEndThatThrows() {
        SwapChoices x = new SwapChoices();
        for (int mode : new int[] {-1, 3, MIN, MAX}) dueThrow("swapsToEnd(" + mode + ")", ILLEGAL, () -> x.swapsToEnd(mode));
        x.steps(6);
        dueThrow("swapsToEnd(3) at the end", ILLEGAL, () -> x.swapsToEnd(3));
    }

    private static void bestMode() {
        due("all alike", new SwapChoices().bestMode(), 0);
        due("none is allowed", of(FOUR + "rule number > 5;").bestMode(), 0);
        SwapChoices end = new SwapChoices();
        end.setMode(2);
        end.steps(6);
        due("at the end", end.bestMode(), 0);
        // 0 a b (3), 3 c d (7), 4 b d (6): 3, 2 and 2 swaps.
        due("1 and 2 alike", of(FOUR + "strike b c;strike a c;strike a d;").bestMode(), 1);
        // 1 b c (5), 2 a c (14), 4 b d (1): 1 + 2 by number and by distance, 1 + 1 by weight.
        due("2 alone", of("choose 2;thing a 9;thing b 0;thing c 5;thing d 1;rule number = 1 or number = 2 or number = 4;").bestMode(),
            2);
    }

    private static void ahead() {
        SwapChoices x = new SwapChoices();
        for (int i = 0; i < 6; i++) due("ahead(" + i + ")", x.ahead(i), i);
        due("ahead(6)", x.ahead(6), -1);
        for (int i : new int[] {7, 252, 253, 1000000, MAX}) due("ahead(" + i + ")", x.ahead(i), -1);
        x.steps(5);
        due("the last one", x.ahead(0), 5);
        due("behind the last one", x.ahead(1), -1);
        x.step();
        due("at the end", x.ahead(0), -1);
        SwapChoices big = of(text(5, 10));
        for (int mode = 0; mode <= 2; mode++) {
            big.setMode(mode);
            due("the first one of 252 by " + mode, big.ahead(0), big.next());
            due("the last one of 252 by " + mode, big.ahead(251), lastByWalk(mode));
            due("behind 252", big.ahead(252), -1);
        }
    }

    private static int lastByWalk(int mode) {
        SwapChoices x = of(text(5, 10));
        x.setMode(mode);
        x.steps(200);
        x.steps(200);
        return x.size(9);
    }

    private static void aheadThatThrows() {
        SwapChoices x = new SwapChoices();
        for (int i : new int[] {-1, -2, MIN}) dueThrow("ahead(" + i + ")", ILLEGAL, () -> x.ahead(i));
        x.steps(6);
        dueThrow("ahead(-1) at the end", ILLEGAL, () -> x.ahead(-1));
        due("ahead(0)", x.ahead(0), -1);
    }

    // ---- promises 24 to 32

    private static void far() {
        SwapChoices x = of(FOUR + "rule number < 2 or number = 3;");
        // 0 a b, 1 b c, 3 c d: a chain.
        due("to itself", x.far(3, 3), 0);
        due("to a neighbour", x.far(0, 1), 1);
        due("to the end", x.far(0, 3), 2);
        due("from one that is not allowed", x.far(2, 0), -1);
        due("to one that is not allowed", x.far(0, 2), -1);
        due("from one that is not allowed to itself", x.far(2, 2), -1);
        due("between two that are not allowed", x.far(4, 5), -1);
        x.strike(1, true);
        due("without a way", x.far(0, 3), -1);
        due("without a way, back", x.far(3, 0), -1);
        due("to itself, alone", x.far(0, 0), 0);
        for (int c : new int[] {-1, 6, MIN, MAX}) {
            dueThrow("far(0, " + c + ")", NO_SUCH, () -> x.far(0, c));
            dueThrow("far(" + c + ", 0)", NO_SUCH, () -> x.far(c, 0));
            dueThrow("far(2, " + c + "), from one that is not allowed", NO_SUCH, () -> x.far(2, c));
        }
    }

    private static void toward() {
        SwapChoices x = of(FOUR + "rule number < 2 or number = 3;");
        due("to itself", x.toward(0, 0), -1);
        due("to a neighbour", x.toward(1, 3), 3);
        due("to the end", x.toward(0, 3), 1);
        due("from one that is not allowed", x.toward(2, 0), -1);
        due("to one that is not allowed", x.toward(0, 2), -1);
        due("from one that is not allowed to itself", x.toward(2, 2), -1);
        x.strike(1, true);
        due("without a way", x.toward(0, 3), -1);
        for (int c : new int[] {-1, 6, MIN, MAX}) {
            dueThrow("toward(0, " + c + ")", NO_SUCH, () -> x.toward(0, c));
            dueThrow("toward(" + c + ", 0)", NO_SUCH, () -> x.toward(c, 0));
            dueThrow("toward(" + c + ", " + c + ")", NO_SUCH, () -> x.toward(c, c));
        }
        SwapChoices all = new SwapChoices();
        due("of four the smallest number", all.toward(0, 3), 1);
        due("of four the smallest number", all.toward(2, 4), 0);
        all.strike(0, true);
        due("of three the smallest number", all.toward(2, 4), 1);
        // From 4 b d to 5 a d: 0 a b has a smaller number and is a neighbour, but is as far from 5 as 4 is.
        due("not one that is as far away", new SwapChoices().toward(4, 5), 5);
        due("not one that is as far away", new SwapChoices().toward(3, 4), 4);
        for (int other : new int[] {0, 1, 100, 200, 250}) {
            SwapChoices big = of(text(5, 10));
            int first = big.toward(251, other);
            due("a neighbour of 251 toward " + other, big.distance(251, first), 1);
            due("it is nearer", big.far(first, other), big.far(251, other) - 1);
            for (int c = 0; c < first; c++) {
                if (big.distance(251, c) == 1 && big.distance(c, other) < big.distance(251, other)) due("one before it", c, first);
            }
        }
        // In 2 of 5 from 5 a d to 2 a c: 0 a b, a neighbour of both, is no nearer.
        due("the other one itself", of(text(2, 5)).toward(5, 2), 2);
    }

    private static void part() {
        SwapChoices x = of(FOUR + "rule number = 5 or number = 1;");
        int[][] two = {{1, 1, 0}, {5, 1, 0}};
        for (int p = 0; p < 2; p++) {
            for (int what = 0; what < 3; what++) due("part(" + p + ", " + what + ")", x.part(p, what), two[p][what]);
        }
        SwapChoices last = of(FOUR + "rule number = 0 or number = 3 or number = 5;");
        // 0 a b - 5 a d - 3 c d: from 0 to 3 takes 2 by the greatest number.
        int[] one = {0, 3, 2};
        for (int what = 0; what < 3; what++) due("part(0, " + what + ")", last.part(0, what), one[what]);
        last.strike(0, true);
        int[] left = {3, 2, 1};
        for (int what = 0; what < 3; what++) due("part(0, " + what + ") then", last.part(0, what), left[what]);
        SwapChoices big = of(text(5, 10));
        int[] whole = {0, 252, 5};
        for (int what = 0; what < 3; what++) due("part(0, " + what + ") of 252", big.part(0, what), whole[what]);
        load(big, FOUR);
        due("part(0, 1) behind a longer order", big.part(0, 1), 6);
        due("part(0, 2) behind a longer order", big.part(0, 2), 2);
    }

    private static void partThatThrows() {
        SwapChoices x = of(FOUR + "rule number = 5 or number = 1;");
        for (int p : new int[] {-1, 2, MIN, MAX}) {
            for (int what : new int[] {0, -1, 3, MIN, MAX}) dueThrow("part(" + p + ", " + what + ")", NO_SUCH, () -> x.part(p, what));
        }
        for (int p = 0; p < 2; p++) {
            int there = p;
            for (int what : new int[] {-1, 3, MIN, MAX}) dueThrow("part(" + p + ", " + what + ")", ILLEGAL, () -> x.part(there, what));
        }
        SwapChoices none = of(FOUR + "rule number > 5;");
        dueThrow("part(0, 0) of none", NO_SUCH, () -> none.part(0, 0));
        dueThrow("part(0, 3) of none", NO_SUCH, () -> none.part(0, 3));
    }

    private static void allowedIf() {
        SwapChoices x = of(FOUR + "rule number > 5;rule number < 6;rule a;strike a b;");
        due("without the one that leaves all out", x.allowedIf(0), 2);
        due("without one that leaves none out", x.allowedIf(1), 0);
        x.switchRule(0);
        due("with one that leaves all out", x.allowedIf(0), 0);
        due("without a", x.allowedIf(2), 5);
        x.switchRule(2);
        due("with a", x.allowedIf(2), 2);
        due("nothing is switched", x.size(3), 5);
        due("it is off", x.rule(2, 0), 0);
        SwapChoices ten = of(FOUR + "rule number<6;".repeat(9) + "rule number>5;");
        due("without the tenth one", ten.allowedIf(9), 6);
        for (int r : new int[] {-1, 3, 10, 32, MIN, MAX}) dueThrow("allowedIf(" + r + ")", NO_SUCH, () -> x.allowedIf(r));
        dueThrow("allowedIf(0) without rules", NO_SUCH, () -> new SwapChoices().allowedIf(0));
    }

    private static void partsIf() {
        SwapChoices x = of(FOUR + "rule number > 5;rule number = 0 or number = 3;rule not number = 3;");
        due("none is allowed", x.size(12), 0);
        due("without the one that leaves all out", x.partsIf(0), 1);
        x.switchRule(2);
        due("two that are apart", x.partsIf(0), 2);
        due("still none", x.partsIf(1), 0);
        x.switchRule(0);
        due("without the other one", x.partsIf(1), 1);
        due("with the one that leaves all out", x.partsIf(0), 0);
        due("parts now", x.size(12), 2);
        due("part of 3 now", x.choice(3, 7), 1);
        for (int r : new int[] {-1, 3, 10, 32, MIN, MAX}) dueThrow("partsIf(" + r + ")", NO_SUCH, () -> x.partsIf(r));
        SwapChoices weights = of(FOUR + "rule weight<4 or weight>6;rule number<6;");
        due("0 and 3 are apart", weights.partsIf(1), 2);
        weights.setWeight(0, 9);
        due("0, 2, 3 and 5 are not", weights.partsIf(1), 1);
        dueThrow("partsIf(0) without rules", NO_SUCH, () -> new SwapChoices().partsIf(0));
    }

    private static void strictest() {
        due("without rules", new SwapChoices().strictest(), -1);
        // Without a: 0 b, 1 b, 4 b; without b: 0 a, 2 a, 5 a; without the last one: 0 alone.
        SwapChoices x = of(FOUR + "rule number < 6;rule a;rule b;");
        due("not the first one", x.strictest(), 1);
        x.switchRule(1);
        due("without one that is off", x.strictest(), 2);
        x.switchRule(2);
        due("one that leaves none out", x.strictest(), 0);
        x.switchRule(0);
        due("none is on", x.strictest(), -1);
        due("of several the smallest", of(FOUR + "rule a or b;rule a;rule b;").strictest(), 1);
        SwapChoices ten = of(FOUR + "rule number<6;".repeat(9) + "rule number>3;");
        due("the tenth one", ten.strictest(), 9);
        due("two that leave all out alone", of(FOUR + "rule weight>99;rule weight>99;").strictest(), 0);
        SwapChoices struck = of("choose 1;thing a 1;thing b 1;rule b;rule a;strike a;strike b;");
        due("all are struck out", struck.strictest(), 0);
        struck.switchRule(0);
        due("all are struck out, and the first one is off", struck.strictest(), 1);
    }

    private static int bestByTrying(String text) {
        SwapChoices x = of(text);
        int best = -1;
        int most = -1;
        int choices = x.size(2);
        for (int c = 0; c < choices; c++) {
            if (x.choice(c, 2) == 0) continue;
            x.strike(c, true);
            int parts = x.size(12);
            x.undo();
            if (parts > most) {
                best = c;
                most = parts;
            }
        }
        return best;
    }

    private static void bridge() {
        due("none is allowed", of(FOUR + "rule number > 5;").bridge(), -1);
        due("all are struck out", of("choose 1;thing a 1;thing b 1;strike a;strike b;").bridge(), -1);
        due("one alone", of(FOUR + "rule number = 5;").bridge(), 5);
        due("two that are apart", of(FOUR + "rule number = 0 or number = 3;").bridge(), 0);
        due("two neighbours", of(FOUR + "rule number = 2 or number = 3;").bridge(), 2);
        // 0 a b - 5 a d - 3 c d
        due("the last one of a chain", of(FOUR + "rule number = 0 or number = 3 or number = 5;").bridge(), 5);
        due("one apart counts less than one that keeps nothing together", of(text(2, 5) + "rule all(a b) or all(c d) or all(c e);")
            .bridge(), bestByTrying(text(2, 5) + "rule all(a b) or all(c d) or all(c e);"));
        due("all of them", new SwapChoices().bridge(), 0);
        due("all of 252", of(text(5, 10)).bridge(), 0);
        due("of 251", of(text(5, 10) + "strike a b c d e;").bridge(), 1);
        // Those without j, and f g h i j, which has five neighbours among them, and then one.
        SwapChoices tail = of(text(5, 10) + "rule not j or all(f g h i j);");
        int end = tail.numberOf(31 << 5);
        due("parts with one at the end", tail.size(12), 1);
        due("its neighbours", tail.choice(end, 8), 5);
        for (int t = 0; t < 4; t++) tail.strike(tail.swapped(end, 9, t), true);
        due("one neighbour is left", tail.choice(end, 8), 1);
        due("that one is the bridge", tail.bridge(), tail.swapped(end, 9, 4));
        String[] rings = {"all(a b) or all(b c) or all(c d) or all(d e) or all(e f) or all(a f)",
            "all(a b) or all(b c) or all(c d) or all(a d) or all(d e) or all(e f)",
            "all(a b) or all(b c) or all(c d) or all(d e) or all(e f)",
            "all(d e) or all(e f) or all(c e) or all(a b)", "a and not b or all(d e) or all(e f) or all(b f)",
            "all(a b) or all(c d) or all(e f)", "all(a b) or all(a c) or all(d e) or all(d f)"};
        for (String ring : rings) due("bridge of " + ring, of(text(2, 6) + "rule " + ring + ";").bridge(),
            bestByTrying(text(2, 6) + "rule " + ring + ";"));
        // a b - b c - c d - d e - e f - a f round, each a neighbour of the next one alone: none is a bridge.
        due("a ring", of(text(2, 6) + "rule " + rings[0] + ";").bridge(), 0);
        SwapChoices again = new SwapChoices();
        again.bridge();
        again.strike(2, true);
        again.strike(4, true);
        again.strike(5, true);
        due("a chain behind another bridge", again.bridge(), 1);
        again.strike(1, true);
        due("two apart behind a chain", again.bridge(), 0);
        again.strike(0, true);
        due("one alone behind that", again.bridge(), 3);
        SwapChoices apart = of(text(2, 5));
        apart.bridge();
        add(apart, "all(a b) or all(c d) or all(d e)");
        // Without a b there would be one part, without c d two.
        due("not the one apart, behind another bridge", apart.bridge(), 3);
    }

    private static void meanWeight() {
        due("none is allowed", of(FOUR + "rule number > 5;").meanWeight(), 0.0);
        due("none is allowed by hand", of("choose 1;thing a 9;thing b 9;strike a;strike b;").meanWeight(), 0.0);
        due("all weigh 0", of("choose 1;thing a 0;thing b 0;").meanWeight(), 0.0);
        due("one alone", of(FOUR + "rule number = 3;").meanWeight(), 7.0);
        due("not a whole number", of("choose 1;thing a 1;thing b 2;thing c 2;").meanWeight(), 5.0 / 3.0);
        due("the greatest", of("choose 9;thing a 99;thing b 99;thing c 99;thing d 99;thing e 99;thing f 99;thing g 99;thing h 99;"
            + "thing i 99;thing j 99;").meanWeight(), 891.0);
        SwapChoices smaller = of(text(5, 10));
        smaller.meanWeight();
        load(smaller, FOUR);
        due("behind a longer order", smaller.meanWeight(), 5.0);
    }

    private static void visitedShare() {
        due("none is allowed", of(FOUR + "rule number > 5;").visitedShare(), 1.0f);
        SwapChoices x = of(THREE);
        due("none is VISITED", x.visitedShare(), 0.0f);
        x.step();
        due("a third", x.visitedShare(), 1.0f / 3.0f);
        x.steps(2);
        due("all", x.visitedShare(), 1.0f);
        x.strike(0, true);
        x.strike(1, true);
        due("all of one", x.visitedShare(), 1.0f);
        x.strike(2, true);
        due("all are VISITED, and none is allowed", x.visitedShare(), 1.0f);
        x.reset();
        x.strike(0, false);
        due("none of one", x.visitedShare(), 0.0f);
        SwapChoices seven = of(text(1, 7));
        seven.steps(5);
        due("five of seven", seven.visitedShare(), 5.0f / 7.0f);
    }
}
