import java.util.ArrayList;
import java.util.List;

/** A test for each boundary that the document names for operations, and promises 33 to 50. */
public final class OperationsBoundariesTest extends Checks {
    interface Asked {
        Object by(int number);
    }

    public static void main(String[] args) {
        allOperations();
        steps();
        changes();
        texts();
        finish();
    }

    private static void allOperations() {
        sentence("step, steps, swap, back, reset, setMode, setWeight, addRule, dropRule, switchRule and strike are operations.",
            OperationsBoundariesTest::operations);
        sentence("Every successful call is recorded, even if it changes nothing.", OperationsBoundariesTest::recorded);
        sentence("A call that returns a negative error code or throws an exception changes nothing",
            OperationsBoundariesTest::refused);
        sentence("(but addRule empties the buffer, unless it returns -2);", OperationsBoundariesTest::bufferOfAddRule);
        sentence("error codes are checked after the exceptions, in the order in which they are listed.",
            OperationsBoundariesTest::orderOfErrors);
        sentence("The 10 most recent operations can be undone, the most recent one first.", OperationsBoundariesTest::tenMostRecent);
        sentence("Undoing restores everything that the operation changed, but not the buffer, the error position, the text of format "
            + "and the snapshot.", OperationsBoundariesTest::undoing);
        sentence("NoSuchElementException is thrown if there is no such choice, thing or rule.",
            OperationsBoundariesTest::noSuchElement);
        sentence("`NONE = -1`: There is no such value. `HIDDEN = -1000000`: Error results of many start here.",
            OperationsBoundariesTest::constants);
        sentence("An object is used for at most 512 calls after it has been made;", OperationsBoundariesTest::manyCalls);
    }

    private static void steps() {
        sentence("Returns the choice to which it went; -2 if there is no next choice.", OperationsBoundariesTest::step);
        sentence("Operation: steps, until there is no next choice, but at most so many. - `most`: 1 to 200 Returns how many were made.",
            OperationsBoundariesTest::stepsUntil);
        sentence("Throws `IllegalArgumentException` if most is out of range", OperationsBoundariesTest::stepsOutOfRange);
        sentence("Returns that choice; -2 if NOW is NONE, -3 if there is no such swap, -4 if it is not allowed, -5 if it is VISITED.",
            OperationsBoundariesTest::swap);
        sentence("Throws `NoSuchElementException` if there is no such thing ## Promise 36: back",
            OperationsBoundariesTest::swapThatThrows);
        sentence("the choice before it on the trail becomes NOW (NONE if there is none). The steps become 1 less, and the swaps what "
            + "they were before it.", OperationsBoundariesTest::back);
        sentence("Returns NOW then, plus 1 (so 0 for NONE); -2 if the trail is empty.", OperationsBoundariesTest::backReturns);
        sentence("Operation: the trail is empty, no choice is VISITED, NOW is NONE, steps and swaps are 0. Returns how many choices the "
            + "trail had.", OperationsBoundariesTest::reset);
    }

    private static void changes() {
        sentence("Operation: sets MODE. - `mode`: 0 to 2 Returns MODE before. Throws `IllegalArgumentException` if mode is out of range",
            OperationsBoundariesTest::setMode);
        sentence("- `weight`: 0 to 99 Returns its weight before. Throws `NoSuchElementException` if there is no such thing (checked "
            + "first) Throws `IllegalArgumentException` if weight is out of range", OperationsBoundariesTest::setWeight);
        sentence("The buffer is empty afterwards, also after an error of the text. - `length`: number of bytes to read Returns the "
            + "number of the rule; -2 if there are 10 (the buffer stays);", OperationsBoundariesTest::addRule);
        sentence("Throws `IllegalArgumentException` if length is negative or greater than the number of bytes in the buffer ## Promise "
            + "41: dropRule", OperationsBoundariesTest::addRuleThatThrows);
        sentence("Returns how many rules are left.", OperationsBoundariesTest::dropRule);
        sentence("a rule that is on is off then, and the other way round. Returns how many choices are allowed then.",
            OperationsBoundariesTest::switchRule);
        sentence("sets whether a choice is struck out. Returns whether that changed.", OperationsBoundariesTest::strike);
    }

    private static void texts() {
        sentence("- `length`: number of bytes to read, at most 200", OperationsBoundariesTest::manyOf200);
        sentence("Reads the first bytes of the buffer as a test. The buffer is empty afterwards, also after an error.",
            OperationsBoundariesTest::bufferOfMany);
        sentence("Returns for how many choices the test holds; HIDDEN minus the error code if the text has an error.",
            OperationsBoundariesTest::many);
        sentence("if length is negative, greater than 200, or greater than the number of bytes in the buffer (nothing changes)",
            OperationsBoundariesTest::manyThatThrows);
        sentence("the names of its things, by number, with a space between two; then, directly, '*' if it is NOW, '!' if it is "
            + "VISITED, '-' if it is not allowed.", OperationsBoundariesTest::format);
        sentence("Returns the byte at index of the text of the most recent successful call of format, as it was then (also after load, "
            + "undo and restoreSnapshot); NONE if index is out of range or there was no such call.",
            OperationsBoundariesTest::formattedByte);
        sentence("Returns the number of operations that can be undone.", OperationsBoundariesTest::undoCount);
        sentence("Returns the number of operations that can still be undone; NONE if there was nothing to undo.",
            OperationsBoundariesTest::undo);
        sentence("Saves a snapshot of everything that undoing restores. It replaces an earlier snapshot.",
            OperationsBoundariesTest::saveSnapshot);
        sentence("Restores the snapshot and clears the undo history. The snapshot is kept.",
            OperationsBoundariesTest::restoreSnapshot);
        sentence("Returns true; false if there is no snapshot (nothing changes).", OperationsBoundariesTest::restoreNone);
    }

    // ---- all operations

    /** An operation by its number, on an object with two rules at least, a trail, and a test in the buffer. */
    private static Object operate(SwapChoices x, int operation) {
        switch (operation) {
            case 0: return x.step();
            case 1: return x.steps(2);
            case 2: return x.swap(0, 3);
            case 3: return x.back();
            case 4: return x.reset();
            case 5: return x.setMode(2);
            case 6: return x.setWeight(1, 50);
            case 7: return x.addRule(1);
            case 8: return x.dropRule(0);
            case 9: return x.switchRule(0);
            default: return x.strike(0, true);
        }
    }

    private static final String[] NAMES = {"step", "steps", "swap", "back", "reset", "setMode", "setWeight", "addRule", "dropRule",
        "switchRule", "strike"};

    private static SwapChoices prepared() {
        SwapChoices x = of(FOUR + "rule not all(b c);rule weight < 7;");
        x.step();
        return fed(x, "d");
    }

    private static void operations() {
        Object[] due = {2, 2, 4, 0, 1, 0, 2, 2, 1, 5, true};
        for (int i = 0; i < NAMES.length; i++) {
            SwapChoices x = prepared();
            String before = brief(x);
            due(NAMES[i], operate(x, i), due[i]);
            due("undoCount behind " + NAMES[i], x.undoCount(), 2);
            due(NAMES[i] + " changes something", brief(x).equals(before), false);
            due("undo of " + NAMES[i], x.undo(), 1);
            due("all behind its undo", brief(x), before);
        }
        SwapChoices x = prepared();
        load(x, "choose");
        x.format(0);
        many(x, "a", true);
        x.saveSnapshot();
        x.next();
        x.bridge();
        due("others are no operations", x.undoCount(), 1);
        for (int i = 0; i < NAMES.length; i++) asksBehind(i);
    }

    private static Object ask(SwapChoices x, int asked) {
        switch (asked) {
            case 0: return x.size(3);
            case 1: return x.size(12);
            case 2: return x.size(13);
            case 3: return x.choice(0, 1);
            case 4: return x.choice(2, 2);
            case 5: return x.choice(2, 7);
            case 6: return x.choice(4, 8);
            case 7: return x.choice(2, 9);
            case 8: return x.nearest(0, true);
            case 9: return x.with(0);
            case 10: return x.heaviest();
            case 11: return x.holds(0, 3);
            case 12: return x.rule(0, 1);
            case 13: return x.rule(0, 2);
            case 14: return x.why(3);
            case 15: return x.against(4);
            case 16: return x.next();
            case 17: return x.swapsToEnd(1);
            case 18: return x.bestMode();
            case 19: return x.ahead(2);
            case 20: return x.far(0, 4);
            case 21: return x.toward(2, 4);
            case 22: return x.part(0, 1);
            case 23: return x.allowedIf(0);
            case 24: return x.partsIf(0);
            case 25: return x.strictest();
            case 26: return x.bridge();
            case 27: return x.meanWeight();
            case 28: return x.visitedShare();
            case 29: return x.step();
            case 30: return x.swap(1, 2);
            case 31: return x.steps(3);
            case 32: return many(x, "weight > 9", true);
            default: return x.format(0);
        }
    }

    /** Each ask is the first one behind an operation, behind its undo, and behind a snapshot's return; others change nothing. */
    private static void asksBehind(int operation) {
        for (int asked = 0; asked < 34; asked++) {
            for (int then = 0; then < 3; then++) {
                SwapChoices x = operated(operation, then);
                SwapChoices y = operated(operation, then);
                brief(y);
                String call = "ask " + asked + " behind " + NAMES[operation] + (then == 0 ? "" : then == 1 ? ", undo" : ", restore");
                due(call, ask(x, asked), ask(y, asked));
            }
        }
    }

    private static SwapChoices operated(int operation, int then) {
        SwapChoices x = prepared();
        x.saveSnapshot();
        brief(x);
        operate(x, operation);
        if (then == 0) return x;
        brief(x);
        if (then == 1) x.undo();
        else x.restoreSnapshot();
        return x;
    }

    private static void recorded() {
        SwapChoices x = new SwapChoices();
        due("reset of nothing", x.reset(), 0);
        due("undoCount", x.undoCount(), 1);
        due("setMode to what it is", x.setMode(0), 0);
        due("undoCount", x.undoCount(), 2);
        due("setWeight to what it is", x.setWeight(0, 1), 1);
        due("undoCount", x.undoCount(), 3);
        due("strike(false) of one that is not", x.strike(0, false), false);
        due("undoCount", x.undoCount(), 4);
        due("all steps", x.steps(6), 6);
        due("steps of none", x.steps(1), 0);
        due("undoCount", x.undoCount(), 6);
        x.strike(5, true);
        due("strike(true) of one that is", x.strike(5, true), false);
        due("undoCount", x.undoCount(), 8);
        due("undo of what changed nothing", x.undo(), 7);
        due("still struck out", x.size(5), 1);
        due("undo of the strike", x.undo(), 6);
        due("not struck out", x.size(5), 0);
        due("undo of steps of none", x.undo(), 5);
        due("steps", x.size(10), 6);
        // What changes nothing pushes out what changed something.
        SwapChoices y = new SwapChoices();
        y.step();
        for (int i = 0; i < 10; i++) y.setMode(0);
        due("undoCount", y.undoCount(), 10);
        for (int i = 9; i >= 0; i--) due("undo", y.undo(), i);
        due("undo of the step", y.undo(), -1);
        due("the step stays", y.size(10), 1);
    }

    private static void dueRefused(String call, SwapChoices x, Object due, Call made) {
        String before = brief(x);
        x.format(0);
        int shown = x.formattedByte(0);
        int at = x.errorPosition();
        if (due instanceof String) dueThrow(call, (String) due, made);
        else due(call, made.make(), due);
        due("all but it behind " + call, brief(x), before);
        due("formattedByte behind " + call, x.formattedByte(0), shown);
        if (!call.startsWith("addRule of")) due("errorPosition behind " + call, x.errorPosition(), at);
    }

    private static void refused() {
        for (int i : new int[] {-1, MIN, MAX, 252}) {
            SwapChoices x = prepared();
            dueRefused("swap(" + i + ", 3)", x, NO_SUCH, () -> x.swap(i, 3));
            dueRefused("swap(0, " + i + ")", x, NO_SUCH, () -> x.swap(0, i));
            dueRefused("setWeight(" + i + ", 0)", x, NO_SUCH, () -> x.setWeight(i, 0));
            dueRefused("setWeight(0, " + i + ")", x, ILLEGAL, () -> x.setWeight(0, i));
            SwapChoices y = prepared();
            dueRefused("steps(" + i + ")", y, ILLEGAL, () -> y.steps(i));
            dueRefused("setMode(" + i + ")", y, ILLEGAL, () -> y.setMode(i));
            dueRefused("dropRule(" + i + ")", y, NO_SUCH, () -> y.dropRule(i));
            SwapChoices z = prepared();
            dueRefused("switchRule(" + i + ")", z, NO_SUCH, () -> z.switchRule(i));
            dueRefused("strike(" + i + ", true)", z, NO_SUCH, () -> z.strike(i, true));
            dueRefused("addRule(" + i + ")", z, ILLEGAL, () -> z.addRule(i));
            due("feed then", z.feed(0, 0, 0, 0, 0), 40);
        }
        SwapChoices x = prepared();
        dueRefused("swap(0, 0)", x, -3, () -> x.swap(0, 0));
        dueRefused("swap(0, 2), not allowed", x, -4, () -> x.swap(0, 2));
        x.swap(1, 2);
        dueRefused("swap(2, 1), VISITED", x, -5, () -> x.swap(2, 1));
        SwapChoices y = prepared();
        y.steps(9);
        dueRefused("step at the end", y, -2, () -> y.step());
        y.reset();
        dueRefused("swap from NONE", y, -2, () -> y.swap(0, 2));
        dueRefused("back of nothing", y, -2, () -> y.back());
        SwapChoices z = prepared();
        dueRefused("addRule of a text with an error", z, -11, () -> z.addRule(0));
        dueRefused("addRule of a text with another error", fed(z, "e"), -14, () -> z.addRule(1));
        due("the tests stay", z.size(6), 2);
    }

    private static void bufferOfAddRule() {
        SwapChoices x = fed(new SwapChoices(), "a");
        due("addRule", x.addRule(1), 0);
        due("feed behind it", x.feed(0, 0, 0, 0, 0), 20);
        due("addRule with an error", x.addRule(20), -11);
        due("feed behind it", x.feed(0x61202020, 0, 0, 0, 0), 20);
        // The bracket speaks of the codes: a call that throws has read nothing, and the bytes stay.
        dueThrow("addRule(21)", ILLEGAL, () -> x.addRule(21));
        due("addRule of the same bytes", x.addRule(1), 1);
        for (int r = 2; r < 10; r++) add(x, "a");
        fed(x, "b");
        due("addRule with ten rules", x.addRule(1), -2);
        due("addRule(0) with ten rules", x.addRule(0), -2);
        due("many of what stays", x.many(1, false), 3);
        fed(x, "b");
        x.addRule(1);
        due("feed behind -2", x.feed(0, 0, 0, 0, 0), 40);
    }

    private static void orderOfErrors() {
        SwapChoices x = new SwapChoices();
        due("-2 and -3", x.swap(0, 0), -2);
        dueThrow("a thing that is none, and -2", NO_SUCH, () -> x.swap(4, 0));
        dueThrow("a thing that is none, and -2", NO_SUCH, () -> x.swap(0, 4));
        x.step();
        x.swap(0, 2);
        x.strike(0, true);
        due("-4 and -5", x.swap(2, 0), -4);
        dueThrow("a thing that is none, and -3", NO_SUCH, () -> x.swap(3, 4));
        x.strike(0, false);
        due("-5 alone", x.swap(2, 0), -5);
        for (int r = 0; r < 10; r++) add(x, "d or not d");
        dueThrow("a length that is too great, and -2", ILLEGAL, () -> x.addRule(1));
        dueThrow("a length that is negative, and -2", ILLEGAL, () -> x.addRule(-1));
        fed(x, "e");
        due("-2, and an error of the text", x.addRule(1), -2);
        dueThrow("a length that is too great, and -2", ILLEGAL, () -> x.addRule(21));
    }

    private static void tenMostRecent() {
        SwapChoices x = new SwapChoices();
        for (int i = 1; i <= 10; i++) x.setWeight(0, 10 + i);
        due("undoCount of ten", x.undoCount(), 10);
        x.setWeight(0, 21);
        due("undoCount of eleven", x.undoCount(), 10);
        for (int i = 9; i >= 0; i--) {
            due("undo", x.undo(), i);
            due("weight", x.weight(0), 11 + i);
        }
        due("an 11th undo", x.undo(), -1);
        due("the first of eleven stays", x.weight(0), 11);
        // Round and round: twelve more, five undone, eight more.
        for (int i = 0; i < 12; i++) x.setWeight(1, 30 + i);
        for (int i = 0; i < 5; i++) x.undo();
        due("weight behind five undone", x.weight(1), 36);
        due("undoCount behind five undone", x.undoCount(), 5);
        for (int i = 0; i < 8; i++) x.setWeight(1, 50 + i);
        due("undoCount behind eight more", x.undoCount(), 10);
        for (int i = 0; i < 8; i++) x.undo();
        due("weight behind eight undone", x.weight(1), 36);
        due("undoCount behind eight undone", x.undoCount(), 2);
        x.undo();
        due("undo", x.undo(), 0);
        due("weight at the end", x.weight(1), 34);
        SwapChoices one = new SwapChoices();
        one.steps(6);
        due("steps are one operation", one.undo(), 0);
        due("all of them are undone", one.size(10), 0);
    }

    private static void undoing() {
        // The trail is another one when it is as long as before.
        SwapChoices x = new SwapChoices();
        x.step();
        x.swap(0, 2);
        x.swap(1, 3);
        String trail = trailOf(x);
        x.back();
        x.back();
        x.swap(1, 2);
        x.swap(2, 3);
        due("another trail", trailOf(x), "0 2 5 ");
        for (int i = 0; i < 4; i++) x.undo();
        due("the trail of before", trailOf(x), trail);
        due("swaps", x.size(11), 2);
        due("VISITED", x.choice(2, 3), 0);
        due("VISITED", x.choice(1, 3), 1);
        // A rule that was dropped comes back at its place, off as it was.
        SwapChoices rules = of(FOUR + "rule a;rule b;rule c;");
        rules.switchRule(1);
        rules.dropRule(0);
        add(rules, "d");
        rules.undo();
        rules.undo();
        due("the rules of before", "" + rules.holds(0, 5) + rules.holds(1, 1) + rules.holds(2, 3), "truetruetrue");
        due("on", "" + rules.rule(0, 0) + rules.rule(1, 0) + rules.rule(2, 0), "101");
        // The buffer, the error position, the text of format, the snapshot.
        SwapChoices y = new SwapChoices();
        y.setMode(1);
        y.setMode(2);
        many(y, "a e", true);
        y.format(0);
        y.feed(0x61202020, 0, 0, 0, 0);
        y.undo();
        y.saveSnapshot();
        y.undo();
        due("errorPosition", y.errorPosition(), 2);
        due("formattedByte(2)", y.formattedByte(2), (int) 'b');
        due("the buffer", y.many(1, false), 3);
        due("MODE", y.size(8), 0);
        due("the snapshot", y.restoreSnapshot(), true);
        due("its MODE", y.size(8), 1);
        // An undo of addRule does not bring the buffer back.
        SwapChoices z = fed(new SwapChoices(), "a");
        z.addRule(1);
        z.undo();
        due("feed behind the undo of addRule", z.feed(0, 0, 0, 0, 0), 20);
        due("errorPosition behind it", z.errorPosition(), -1);
    }

    private static void noSuchElement() {
        int[] out = {-1, MIN, MAX, 32, 252};
        SwapChoices x = of(FOUR + "rule a;");
        dueNoSuch("choice", 5, out, c -> x.choice(c, 0), c -> x.distance(c, 0), c -> x.distance(0, c), c -> x.swapped(c, 0, 3),
            c -> x.nearest(c, true), c -> x.holds(0, c), c -> x.why(c), c -> x.against(c), c -> x.far(c, 0), c -> x.far(0, c),
            c -> x.toward(c, 0), c -> x.toward(0, c), c -> x.strike(c, false), c -> x.format(c));
        SwapChoices y = of(FOUR + "rule a;");
        y.step();
        dueNoSuch("thing", 3, out, t -> y.weight(t), t -> y.nameByte(t, 0), t -> y.swapped(0, t, 3), t -> y.swapped(0, 0, t),
            t -> y.with(t), t -> y.swap(t, 0), t -> y.swap(0, t), t -> y.setWeight(t, 0));
        SwapChoices z = of(FOUR + "rule a;");
        dueNoSuch("rule", 0, out, r -> z.holds(r, 0), r -> z.rule(r, 0), r -> z.allowedIf(r), r -> z.partsIf(r),
            r -> z.switchRule(r), r -> z.dropRule(r));
    }

    /** No call throws for the last one that there is; each throws for the one behind it, and for those that are out. */
    private static void dueNoSuch(String kind, int last, int[] out, Asked... calls) {
        for (int i = 0; i < calls.length; i++) {
            Asked call = calls[i];
            for (int number : out) dueThrow("call " + i + " of the " + kind + " " + number, NO_SUCH, () -> call.by(number));
            dueThrow("call " + i + " of the " + kind + " " + (last + 1), NO_SUCH, () -> call.by(last + 1));
            dueThrow("call " + i + " of the last " + kind, NOTHING, () -> call.by(last));
        }
    }

    private static void constants() {
        due("NONE", SwapChoices.NONE, -1);
        due("HIDDEN", SwapChoices.HIDDEN, -1000000);
        due("no NOW", new SwapChoices().size(9), SwapChoices.NONE);
        due("the smallest error of many", many(new SwapChoices(), ";", true), SwapChoices.HIDDEN - 1);
        due("the greatest error of many", many(new SwapChoices(), "(((((((", true), SwapChoices.HIDDEN - 7);
        due("the smallest answer of many", many(new SwapChoices(), "number > 5", true), 0);
    }

    private static void manyCalls() {
        SwapChoices x = of(text(5, 10));
        int calls = fedCalls(text(5, 10)) + 1;
        for (; calls < 510; calls++) {
            if (calls % 3 == 0) x.bestMode();
            else if (calls % 3 == 1) x.strike(calls % 252, true);
            else x.bridge();
        }
        int struck = x.size(5);
        due("call 512", x.size(3), 252 - struck);
        SwapChoices y = new SwapChoices();
        for (int i = 0; i < 511; i++) y.setMode(i % 3);
        due("call 512 of operations", y.undo(), 9);
    }

    private static int fedCalls(String text) {
        return (text.length() + 19) / 20;
    }

    // ---- promises 33 to 37

    private static void step() {
        SwapChoices x = of(FOUR + "rule number > 3;");
        due("the first one", x.step(), 4);
        due("the last one", x.step(), 5);
        due("none is left", x.step(), -2);
        due("again", x.step(), -2);
        due("steps", x.size(10), 2);
        due("NOW", x.size(9), 5);
        due("undoCount", x.undoCount(), 2);
        x.switchRule(0);
        due("the next one when others are there", x.step(), 0);
        SwapChoices none = of(FOUR + "rule number > 5;");
        due("none is allowed", none.step(), -2);
        due("NOW", none.size(9), -1);
        due("undoCount", none.undoCount(), 0);
        SwapChoices zero = new SwapChoices();
        due("to the choice 0", zero.step(), 0);
    }

    private static void stepsUntil() {
        SwapChoices x = of(text(5, 10));
        due("steps(1)", x.steps(1), 1);
        due("NOW", x.size(9), 0);
        due("steps(200)", x.steps(200), 200);
        due("steps", x.size(10), 201);
        due("steps(50)", x.steps(50), 50);
        due("steps(2) with one left", x.steps(2), 1);
        due("steps(1) at the end", x.steps(1), 0);
        due("swaps", x.size(11), 251);
        due("undoCount", x.undoCount(), 5);
        due("undo", x.undo(), 4);
        due("undo", x.undo(), 3);
        due("steps then", x.size(10), 251);
        due("steps(1) with one left", x.steps(1), 1);
        due("of none", of(FOUR + "rule number > 5;").steps(200), 0);
        for (int mode = 1; mode <= 2; mode++) {
            SwapChoices byMode = of("choose 2 mode " + mode + ";" + things(4));
            SwapChoices byStep = of("choose 2 mode " + mode + ";" + things(4));
            due("steps(200) by " + mode, byMode.steps(200), 6);
            for (int i = 0; i < 6; i++) byStep.step();
            due("the trail by " + mode, trailOf(byMode), trailOf(byStep));
            due("the swaps by " + mode, byMode.size(11), byStep.size(11));
        }
    }

    private static void stepsOutOfRange() {
        SwapChoices x = new SwapChoices();
        for (int most : new int[] {0, -1, 201, MIN, MAX}) dueThrow("steps(" + most + ")", ILLEGAL, () -> x.steps(most));
        due("undoCount", x.undoCount(), 0);
        due("steps(200)", x.steps(200), 6);
        dueThrow("steps(0) at the end", ILLEGAL, () -> x.steps(0));
    }

    private static void swap() {
        SwapChoices x = of(FOUR + "strike b d;");
        due("NOW is NONE", x.swap(0, 2), -2);
        x.step();
        int[][] none = {{0, 0}, {0, 1}, {1, 0}, {2, 3}, {2, 0}, {3, 3}};
        for (int[] s : none) due("swap(" + s[0] + ", " + s[1] + ")", x.swap(s[0], s[1]), -3);
        due("to one that is struck out", x.swap(0, 3), -4);
        add(x, "not all(b c)");
        due("to one that a rule leaves out", x.swap(0, 2), -4);
        x.switchRule(0);
        due("when it is off", x.swap(0, 2), 1);
        due("NOW", x.size(9), 1);
        due("steps", x.size(10), 2);
        due("swaps", x.size(11), 1);
        due("VISITED", x.choice(1, 3), 1);
        due("back to one that is VISITED", x.swap(2, 0), -5);
        x.back();
        due("to one that was taken back", x.swap(0, 2), 1);
        x.strike(1, true);
        due("from one that is struck out now", x.swap(1, 3), 3);
        due("swaps", x.size(11), 2);
        SwapChoices ends = of(text(1, 10));
        ends.step();
        due("from the first thing to the last one", ends.swap(0, 9), 9);
        due("and back", ends.swap(9, 0), -5);
        x.reset();
        due("NOW is NONE again", x.swap(0, 2), -2);
    }

    private static void swapThatThrows() {
        SwapChoices x = new SwapChoices();
        for (int round = 0; round < 2; round++) {
            for (int t : new int[] {-1, 4, 32, MIN, MAX}) {
                dueThrow("swap(" + t + ", 2)", NO_SUCH, () -> x.swap(t, 2));
                dueThrow("swap(0, " + t + ")", NO_SUCH, () -> x.swap(0, t));
                dueThrow("swap(" + t + ", " + t + ")", NO_SUCH, () -> x.swap(t, t));
            }
            x.step();
        }
        due("undoCount", x.undoCount(), 2);
    }

    private static void back() {
        SwapChoices x = of(FOUR + "strike b c;strike a c;");
        x.steps(3);
        // 0 a b, 3 c d, 4 b d: 2 and 1.
        due("swaps", x.size(11), 3);
        x.back();
        due("swaps without the last one", x.size(11), 2);
        due("steps", x.size(10), 2);
        due("NOW", x.size(9), 3);
        due("not VISITED", x.choice(4, 3), 0);
        due("VISITED", x.size(4), 2);
        due("its place", x.choice(4, 9), -1);
        x.back();
        due("swaps without two", x.size(11), 0);
        due("NOW", x.size(9), 0);
        x.back();
        due("NOW without any", x.size(9), -1);
        due("steps", x.size(10), 0);
        due("swaps", x.size(11), 0);
        due("trail", x.trail(0), -1);
        due("the next one", x.next(), 0);
        x.undo();
        x.undo();
        due("swaps when both are undone", x.size(11), 2);
        due("VISITED", x.choice(3, 3), 1);
        x.strike(0, true);
        x.back();
        due("NOW is one that is struck out", x.size(9), 0);
        SwapChoices y = new SwapChoices();
        y.steps(2);
        y.reset();
        due("behind reset", y.back(), -2);
    }

    private static void backReturns() {
        SwapChoices x = of(FOUR + "rule number > 3 or number = 0;");
        due("of an empty trail", x.back(), -2);
        due("undoCount", x.undoCount(), 0);
        x.steps(3);
        due("to 4", x.back(), 5);
        due("to 0", x.back(), 1);
        due("to NONE", x.back(), 0);
        due("of an empty trail", x.back(), -2);
        due("undoCount", x.undoCount(), 4);
        SwapChoices big = of(text(5, 10));
        big.steps(200);
        big.steps(52);
        due("to the greatest but one", big.back(), 251);
    }

    private static void reset() {
        SwapChoices x = new SwapChoices();
        due("of nothing", x.reset(), 0);
        x.steps(6);
        due("share", x.visitedShare(), 1.0f);
        due("of six", x.reset(), 6);
        due("none is VISITED", x.choice(0, 3) + x.choice(5, 3) + x.size(4), 0);
        due("why", x.why(0), 0);
        due("share then", x.visitedShare(), 0.0f);
        due("NOW", x.size(9), -1);
        due("steps", x.size(10), 0);
        due("swaps", x.size(11), 0);
        due("trail", x.trail(0), -1);
        due("the next one", x.next(), 0);
        due("left", x.size(13), 6);
        due("again", x.reset(), 0);
        SwapChoices big = of(text(5, 10));
        big.steps(200);
        big.steps(200);
        due("of 252", big.reset(), 252);
        due("steps behind it", big.steps(200), 200);
        SwapChoices kept = of("choose 2 mode 1;" + things(4) + "rule not a;strike c d;");
        kept.setWeight(1, 9);
        kept.steps(1);
        kept.reset();
        due("MODE, rules, struck out ones and weights stay", "" + kept.size(8) + kept.size(6) + kept.size(5) + kept.weight(1), "1119");
        SwapChoices at = new SwapChoices();
        at.step();
        at.next();
        at.reset();
        due("format of what was NOW", shown(at, 0), "a b");
    }

    // ---- promises 38 to 43

    private static void setMode() {
        SwapChoices x = new SwapChoices();
        due("setMode(2)", x.setMode(2), 0);
        due("setMode(0)", x.setMode(0), 2);
        due("setMode(1)", x.setMode(1), 0);
        due("setMode(1)", x.setMode(1), 1);
        for (int mode : new int[] {-1, 3, MIN, MAX}) dueThrow("setMode(" + mode + ")", ILLEGAL, () -> x.setMode(mode));
        due("MODE", x.size(8), 1);
        due("undoCount", x.undoCount(), 4);
    }

    private static void setWeight() {
        SwapChoices x = new SwapChoices();
        due("to 0", x.setWeight(3, 0), 4);
        due("to 99", x.setWeight(3, 99), 0);
        due("to 99 again", x.setWeight(3, 99), 99);
        due("weight", x.weight(3), 99);
        due("the choice's weight", x.choice(5, 1), 100);
        due("heaviest", x.heaviest(), 3);
        due("meanWeight", x.meanWeight(), 315.0 / 6.0);
        for (int w : new int[] {-1, 100, MIN, MAX}) {
            dueThrow("setWeight(3, " + w + ")", ILLEGAL, () -> x.setWeight(3, w));
            dueThrow("setWeight(4, " + w + ")", NO_SUCH, () -> x.setWeight(4, w));
            dueThrow("setWeight(-1, " + w + ")", NO_SUCH, () -> x.setWeight(-1, w));
        }
        for (int t : new int[] {-1, 4, 10, MIN, MAX}) dueThrow("setWeight(" + t + ", 0)", NO_SUCH, () -> x.setWeight(t, 0));
        due("weight then", x.weight(3), 99);
        due("undoCount", x.undoCount(), 3);
        add(x, "weight = 100");
        due("a rule by weight", x.size(3), 1);
        x.setWeight(3, 98);
        due("the rule when the weight is another one", x.size(3), 1);
        x.setWeight(3, 0);
        due("the rule when none weighs so much", x.size(3), 0);
        x.undo();
        due("the rule when that is undone", x.nearest(0, true), 4);
    }

    private static void addRule() {
        SwapChoices x = fed(new SwapChoices(), "a or not a" + blanks(30));
        due("of the first bytes", x.addRule(1), 0);
        due("feed behind it", x.feed(0, 0, 0, 0, 0), 20);
        due("with an error", x.addRule(20), -11);
        due("feed behind it", x.feed(0, 0, 0, 0, 0), 20);
        due("of no bytes", x.addRule(0), -11);
        due("its errorPosition", x.errorPosition(), 0);
        due("feed behind it", x.feed(0, 0, 0, 0, 0), 20);
        due("undoCount", x.undoCount(), 1);
        x.addRule(0);
        for (int r = 1; r < 10; r++) due("the rule " + r, add(x, "a"), r);
        fed(x, "b");
        due("the 11th one", x.addRule(1), -2);
        due("feed behind it", x.feed(0, 0, 0, 0, 0), 40);
        due("the 11th one with an error", x.addRule(40), -2);
        due("feed behind it", x.feed(0, 0, 0, 0, 0), 60);
        due("rules", x.size(6), 10);
        x.dropRule(9);
        due("of what stayed", x.addRule(1), 9);
        due("it is b", x.holds(9, 1), true);
        int[] codes = {-11, -12, -14, -17};
        String[] wrong = {"a a", "least 11 (a)", "none (x)", "not not not not not not not a"};
        for (int i = 0; i < wrong.length; i++) due("addRule of " + wrong[i], add(new SwapChoices(), wrong[i]), codes[i]);
    }

    private static void addRuleThatThrows() {
        SwapChoices x = fed(new SwapChoices(), "a");
        for (int length : new int[] {-1, 21, 800, MIN, MAX}) dueThrow("addRule(" + length + ")", ILLEGAL, () -> x.addRule(length));
        due("rules", x.size(6), 0);
        due("addRule(20)", x.addRule(20), 0);
        dueThrow("addRule(1) of none", ILLEGAL, () -> x.addRule(1));
    }

    private static void dropRule() {
        SwapChoices x = of(FOUR + "rule a;".repeat(9) + "rule b;");
        x.switchRule(9);
        for (int left = 9; left >= 1; left--) due("dropRule(0)", x.dropRule(0), left);
        due("the last one is b", x.holds(0, 1), true);
        due("it is off", x.rule(0, 0), 0);
        due("allowed", x.size(3), 6);
        due("dropRule(0) of the last one", x.dropRule(0), 0);
        dueThrow("dropRule(0) of none", NO_SUCH, () -> x.dropRule(0));
        due("addRule", add(x, "c"), 0);
        for (int r : new int[] {-1, 1, 32, MIN, MAX}) dueThrow("dropRule(" + r + ")", NO_SUCH, () -> x.dropRule(r));
        due("undoCount", x.undoCount(), 10);
        // On and off by number behind the one that goes.
        SwapChoices y = of(FOUR + "rule a;rule b;rule c;rule d;");
        y.switchRule(2);
        y.dropRule(0);
        due("the others' on", "" + y.rule(0, 0) + y.rule(1, 0) + y.rule(2, 0), "101");
        y.dropRule(2);
        due("the others' on", "" + y.rule(0, 0) + y.rule(1, 0), "10");
        due("size(7)", y.size(7), 1);
        due("allowed", allowed(y), "014");
    }

    private static void switchRule() {
        SwapChoices x = of(FOUR + "rule number < 6;".repeat(9) + "rule number > 5;");
        due("of the last one", x.switchRule(9), 6);
        due("on", x.rule(9, 0), 0);
        due("of the last one, back", x.switchRule(9), 0);
        due("on", x.rule(9, 0), 1);
        due("of the first one", x.switchRule(0), 0);
        due("size(7)", x.size(7), 9);
        for (int r : new int[] {-1, 10, 32, MIN, MAX}) dueThrow("switchRule(" + r + ")", NO_SUCH, () -> x.switchRule(r));
        due("undoCount", x.undoCount(), 3);
        dueThrow("switchRule(0) without rules", NO_SUCH, () -> new SwapChoices().switchRule(0));
    }

    private static void strike() {
        SwapChoices x = new SwapChoices();
        due("of the first one", x.strike(0, true), true);
        due("again", x.strike(0, true), false);
        due("of the last one", x.strike(5, true), true);
        due("struck out", x.size(5), 2);
        due("back", x.strike(0, false), true);
        due("back again", x.strike(0, false), false);
        due("of one that never was", x.strike(1, false), false);
        due("allowed", allowed(x), "01234");
        for (int c : new int[] {-1, 6, 252, MIN, MAX}) {
            dueThrow("strike(" + c + ", true)", NO_SUCH, () -> x.strike(c, true));
            dueThrow("strike(" + c + ", false)", NO_SUCH, () -> x.strike(c, false));
        }
        due("undoCount", x.undoCount(), 6);
        SwapChoices left = of(FOUR + "rule number > 5;");
        due("of one that a rule leaves out", left.strike(0, true), true);
        due("why", left.why(0), 1);
        SwapChoices now = new SwapChoices();
        now.step();
        due("of NOW", now.strike(0, true), true);
        due("NOW stays", now.size(9), 0);
        due("VISITED stays", now.choice(0, 3), 1);
        due("of the last of 252", of(text(5, 10)).strike(251, true), true);
    }

    // ---- promises 44 to 46

    private static void manyOf200() {
        SwapChoices x = fed(new SwapChoices(), "a" + blanks(218) + "e");
        dueThrow("many(201)", ILLEGAL, () -> x.many(201, false));
        dueThrow("many(220)", ILLEGAL, () -> x.many(220, false));
        due("many(200)", x.many(200, false), 3);
        SwapChoices y = fed(new SwapChoices(), blanks(199) + "b" + "or");
        due("many(200), whose last byte counts", y.many(200, false), 3);
        SwapChoices z = fed(new SwapChoices(), blanks(200) + "b");
        due("many(200), behind which the test begins", z.many(200, false), -1000001);
        due("its end", z.errorPosition(), 200);
        SwapChoices full = fed(new SwapChoices(), "a" + blanks(799));
        dueThrow("many(800)", ILLEGAL, () -> full.many(800, true));
        due("addRule(800) of the same", full.addRule(800), 0);
    }

    private static void bufferOfMany() {
        SwapChoices x = fed(new SwapChoices(), "a or b" + blanks(60));
        due("many of the first bytes", x.many(1, true), 3);
        dueThrow("many(1) of none", ILLEGAL, () -> x.many(1, true));
        due("feed", x.feed(0, 0, 0, 0, 0), 20);
        due("many with an error", x.many(20, true), -1000001);
        due("feed behind it", x.feed(0, 0, 0, 0, 0), 20);
        due("many(0)", x.many(0, false), -1000001);
        due("feed behind it", x.feed(0, 0, 0, 0, 0), 20);
        due("undoCount", x.undoCount(), 0);
        due("rules", x.size(6), 0);
    }

    private static void many() {
        SwapChoices x = of(FOUR + "rule not d;strike a b;");
        due("for none", many(x, "all(a b c)", false), 0);
        due("for all", many(x, "number < 6", false), 6);
        due("for all that are allowed", many(x, "number < 6", true), 2);
        due("for none that is allowed", many(x, "d", true), 0);
        due("for those that are not allowed, too", many(x, "d", false), 3);
        due("none is allowed", many(of(FOUR + "rule number > 5;"), "a or not a", true), 0);
        due("for 252", many(of(text(5, 10)), "weight < 9999", true), 252);
        due("code 1", many(x, "a;", true), -1000001);
        due("code 2", many(x, "number < 10000", true), -1000002);
        due("code 4", many(x, "e", true), -1000004);
        due("code 7", many(x, "(((((((", true), -1000007);
        for (int i = 0; i < 8; i++) add(x, "a or not a");
        due("with ten rules", many(x, "a", false), 3);
        due("rules", x.size(6), 9);
        SwapChoices y = of("choose 1;thing x 1;thing y 1;");
        due("a load with an error", load(y, "choose 2;thing y 1;thing z 1;thing x 1;;"), -11);
        due("a name that stays", many(y, "x", false), 1);
        load(y, "choose 2;thing y 1;thing z 1;thing x 1;;");
        due("a name of the text with the error", many(y, "z", false), -1000004);
        SwapChoices often = new SwapChoices();
        for (int i = 0; i < 60; i++) due("again and again", many(often, "b or c or b or c or b or c or b or c or b or c", true), 5);
        for (int i = 0; i < 9; i++) due("another one then", many(often, "all(a b)", true), 1);
    }

    private static void manyThatThrows() {
        SwapChoices x = fed(new SwapChoices(), "a e");
        String before = brief(x);
        for (int length : new int[] {-1, MIN, 21, 200, 201, MAX}) {
            dueThrow("many(" + length + ", true)", ILLEGAL, () -> x.many(length, true));
            dueThrow("many(" + length + ", false)", ILLEGAL, () -> x.many(length, false));
        }
        due("all", brief(x), before);
        due("errorPosition", x.errorPosition(), -1);
        due("many(3)", x.many(3, true), -1000001);
        dueThrow("many(-1)", ILLEGAL, () -> x.many(-1, true));
        due("errorPosition stays", x.errorPosition(), 2);
    }

    private static void format() {
        SwapChoices x = of("choose 1;thing abcdef 1;thing z 1;");
        due("one thing", shown(x, 0), "abcdef");
        x.step();
        due("NOW and VISITED", shown(x, 0), "abcdef*!");
        x.step();
        due("VISITED", shown(x, 0), "abcdef!");
        x.strike(0, true);
        due("VISITED and not allowed", shown(x, 0), "abcdef!-");
        x.strike(1, true);
        due("all three", shown(x, 1), "z*!-");
        x.reset();
        due("not allowed", shown(x, 1), "z-");
        due("two things", shown(new SwapChoices(), 5), "a d");
        SwapChoices nine = of("choose 9;thing aaaaaa 1;thing bbbbbb 1;thing cccccc 1;thing dddddd 1;thing eeeeee 1;thing ffffff 1;"
            + "thing gggggg 1;thing hhhhhh 1;thing iiiiii 1;thing jjjjjj 1;");
        nine.step();
        nine.strike(0, true);
        due("bytes of the longest", nine.format(0), 65);
        due("its last byte", nine.formattedByte(64), (int) '-');
        due("behind it", nine.formattedByte(65), -1);
        due("bytes of the shortest", of("choose 1;thing a 1;thing b 1;").format(1), 1);
        for (int c : new int[] {-1, 6, MIN, MAX}) dueThrow("format(" + c + ")", NO_SUCH, () -> new SwapChoices().format(c));
    }

    private static void formattedByte() {
        SwapChoices x = new SwapChoices();
        for (int i : new int[] {0, 1, -1, MIN, MAX}) due("formattedByte(" + i + ") of none", x.formattedByte(i), -1);
        dueThrow("format(6)", NO_SUCH, () -> x.format(6));
        due("when format threw", x.formattedByte(0), -1);
        x.step();
        x.saveSnapshot();
        x.format(0);
        String due = "a b*!";
        for (int i = 0; i < 5; i++) due("formattedByte(" + i + ")", x.formattedByte(i), (int) due.charAt(i));
        for (int i : new int[] {5, 64, 65, -1, MIN, MAX}) due("formattedByte(" + i + ")", x.formattedByte(i), -1);
        x.step();
        due("after another step", x.formattedByte(3), (int) '*');
        x.undo();
        x.undo();
        due("after undo", x.formattedByte(4), (int) '!');
        x.restoreSnapshot();
        due("after restoreSnapshot", x.formattedByte(4), (int) '!');
        load(x, "choose 1;thing q 1;thing r 1;");
        due("after load", x.formattedByte(0), (int) 'a');
        due("after load", x.formattedByte(4), (int) '!');
        dueThrow("format(2)", NO_SUCH, () -> x.format(2));
        due("after a format that threw", x.formattedByte(4), (int) '!');
        x.format(0);
        due("of a shorter one", x.formattedByte(0), (int) 'q');
        due("behind a shorter one", x.formattedByte(1), -1);
    }

    // ---- promises 47 to 50

    private static void undoCount() {
        SwapChoices x = new SwapChoices();
        due("of a new one", x.undoCount(), 0);
        for (int i = 1; i <= 12; i++) {
            x.strike(i % 6, i < 6);
            due("behind " + i, x.undoCount(), i < 10 ? i : 10);
        }
        x.undo();
        due("behind an undo", x.undoCount(), 9);
        x.saveSnapshot();
        due("behind saveSnapshot", x.undoCount(), 9);
        load(x, "#");
        due("behind a load with an error", x.undoCount(), 9);
        x.restoreSnapshot();
        due("behind restoreSnapshot", x.undoCount(), 0);
        x.reset();
        due("behind an operation more", x.undoCount(), 1);
        load(x, FOUR);
        due("behind load", x.undoCount(), 0);
    }

    private static void undo() {
        SwapChoices x = new SwapChoices();
        due("of a new one", x.undo(), -1);
        x.setMode(1);
        x.setMode(2);
        due("one is left", x.undo(), 1);
        due("none is left", x.undo(), 0);
        due("nothing to undo", x.undo(), -1);
        due("MODE", x.size(8), 0);
        x.setMode(1);
        due("behind that", x.undo(), 0);
        x.back();
        due("a refused call is nothing to undo", x.undo(), -1);
    }

    private static void saveSnapshot() {
        SwapChoices x = of(FOUR + "rule a;rule b;");
        x.switchRule(0);
        x.steps(2);
        x.setMode(1);
        x.setWeight(0, 40);
        x.strike(5, true);
        List<String> before = new ArrayList<>();
        before.add(stateOf(x));
        x.saveSnapshot();
        due("saving changes nothing", stateOf(x), before.get(0));
        due("undoCount", x.undoCount(), 5);
        x.reset();
        x.dropRule(0);
        x.setMode(2);
        x.setWeight(0, 1);
        x.strike(5, false);
        x.step();
        due("another state", stateOf(x).equals(before.get(0)), false);
        x.restoreSnapshot();
        due("the state of before", stateOf(x), before.get(0));
        x.setMode(0);
        x.saveSnapshot();
        x.setMode(2);
        x.restoreSnapshot();
        due("the later snapshot", x.size(8), 0);
        due("its rest", x.weight(0), 40);
    }

    /** What undoing restores: all that is brief but how much can be undone. */
    private static String stateOf(SwapChoices x) {
        String told = brief(x);
        return told.substring(0, told.lastIndexOf(' '));
    }

    private static void restoreSnapshot() {
        SwapChoices x = new SwapChoices();
        x.step();
        x.swap(0, 2);
        x.saveSnapshot();
        x.back();
        x.swap(1, 2);
        x.strike(0, true);
        add(x, "a");
        x.size(3);
        due("restoreSnapshot", x.restoreSnapshot(), true);
        due("allowed", allowed(x), "012345");
        due("trail", trailOf(x), "0 1 ");
        due("VISITED", x.why(2), 0);
        due("undoCount", x.undoCount(), 0);
        due("undo", x.undo(), -1);
        x.step();
        due("undo of a step behind it", x.undo(), 0);
        x.steps(9);
        due("restoreSnapshot again", x.restoreSnapshot(), true);
        due("trail", trailOf(x), "0 1 ");
        due("restoreSnapshot once more", x.restoreSnapshot(), true);
        // Not the buffer, not the error position, not the text of format.
        many(x, "a e", true);
        x.format(0);
        x.feed(0x61202020, 0, 0, 0, 0);
        x.restoreSnapshot();
        due("errorPosition", x.errorPosition(), 2);
        due("formattedByte(3)", x.formattedByte(3), (int) '!');
        due("the buffer", x.many(1, false), 3);
        SwapChoices weights = new SwapChoices();
        add(weights, "weight > 5");
        weights.saveSnapshot();
        weights.setWeight(0, 99);
        due("allowed by weight", weights.size(3), 5);
        weights.restoreSnapshot();
        due("allowed by the weight of before", weights.size(3), 2);
    }

    private static void restoreNone() {
        SwapChoices x = fed(prepared(), "");
        String before = brief(x);
        due("restoreSnapshot without one", x.restoreSnapshot(), false);
        due("all", brief(x), before);
        due("undo", x.undo(), 0);
        x.saveSnapshot();
        load(x, "#");
        due("behind a load with an error", x.restoreSnapshot(), true);
        load(x, FOUR);
        x.step();
        due("behind a load", x.restoreSnapshot(), false);
        due("the step stays", x.undo(), 0);
    }
}
