import java.io.IOException;
import java.nio.file.Files;
import java.nio.file.Path;

/**
 * What the tests by hand share: answers are held against those that are due, texts are fed to an object.
 *
 * The choices of a new object, with weights: 0 a b (3), 1 b c (5), 2 a c (4), 3 c d (7), 4 b d (6), 5 a d (5).
 * All are neighbours but 0 and 3, 1 and 5, 2 and 4.
 */
abstract class Checks {
    static final String NOTHING = "nothing";
    static final String NO_SUCH = "NoSuchElementException";
    static final String ILLEGAL = "IllegalArgumentException";
    static final String THREE = "choose 2;thing a 1;thing b 2;thing c 3;";
    static final String FOUR = "choose 2;thing a 1;thing b 2;thing c 3;thing d 4;";
    static final int[] FAR_OUT = {Integer.MIN_VALUE, -2, -1, Integer.MAX_VALUE};
    static final int MIN = Integer.MIN_VALUE;
    static final int MAX = Integer.MAX_VALUE;

    static int promise = 0;
    private static String about = "";
    private static String document = null;
    private static int sentences = 0;
    private static int passed = 0;
    private static int failed = 0;

    interface Call {
        Object make();
    }

    static void finish() {
        String told = sentences == 0 ? "" : sentences + " sentences: ";
        System.out.println(told + passed + " passed, " + failed + " failed");
        if (failed != 0) System.exit(1);
    }

    /** The test of one sentence, which must stand in the document word by word. */
    static void sentence(String words, Runnable test) {
        sentences++;
        about = words;
        if (!document().contains(words)) fail("the document does not say this");
        int before = passed + failed;
        test.run();
        if (passed + failed == before) fail("nothing is tested");
    }

    private static String document() {
        if (document == null) {
            try {
                document = Files.readString(Path.of("../shared/DOC.md")).replaceAll("\\s+", " ");
            } catch (IOException e) {
                throw new IllegalStateException(e);
            }
        }
        return document;
    }

    private static void fail(String what) {
        failed++;
        System.out.println((promise > 0 ? "promise " + promise : about) + ": " + what);
    }

    static void due(String call, Object got, Object want) {
        if (got.equals(want)) passed++;
        else fail(call + " answered " + got + ", due is " + want);
    }

    static void dueThrow(String call, String want, Call made) {
        String got = NOTHING;
        try {
            made.make();
        } catch (RuntimeException e) {
            got = e.getClass().getSimpleName();
        }
        due(call + " throws", got, want);
    }

    // ---- texts

    static SwapChoices fed(SwapChoices x, String text) {
        StringBuilder padded = new StringBuilder(text);
        while (padded.length() % 20 != 0) padded.append(' ');
        for (int at = 0; at < padded.length(); at += 20) {
            int[] five = new int[5];
            for (int i = 0; i < 20; i++) five[i / 4] = five[i / 4] << 8 | padded.charAt(at + i);
            x.feed(five[0], five[1], five[2], five[3], five[4]);
        }
        return x;
    }

    static int load(SwapChoices x, String text) {
        return fed(x, text).load(text.length());
    }

    static int add(SwapChoices x, String text) {
        return fed(x, text).addRule(text.length());
    }

    static int many(SwapChoices x, String text, boolean allowed) {
        return fed(x, text).many(text.length(), allowed);
    }

    static SwapChoices of(String text) {
        SwapChoices x = new SwapChoices();
        int allowed = load(x, text);
        if (allowed < 0) due("load of " + text, allowed, "no error");
        return x;
    }

    /** So many choices of so many things with the names a, b, c .. and the weights 1, 2, 3 .. */
    static String text(int k, int n) {
        return "choose " + k + ";" + things(n);
    }

    static String things(int n) {
        StringBuilder text = new StringBuilder();
        for (int t = 0; t < n; t++) text.append("thing ").append((char) ('a' + t)).append(' ').append(t + 1).append(';');
        return text.toString();
    }

    static String blanks(int count) {
        return " ".repeat(count);
    }

    static void dueError(String text, int code, int at) {
        SwapChoices x = new SwapChoices();
        due("load of " + text, load(x, text), -10 - code);
        due("errorPosition after " + text, x.errorPosition(), at);
        due("things after " + text, x.size(0), 4);
    }

    static void dueTestError(String text, int code, int at) {
        SwapChoices x = new SwapChoices();
        due("addRule of " + text, add(x, text), -10 - code);
        due("errorPosition after " + text, x.errorPosition(), at);
        due("rules after " + text, x.size(6), 0);
        due("many of " + text, many(x, text, false), -1000000 - code);
        due("errorPosition after many of " + text, x.errorPosition(), at);
        String rule = FOUR + "rule " + text + ";";
        // An error at the end of a test lies at the ; behind it.
        due("load of " + rule, load(x, rule), -10 - code);
        due("errorPosition after " + rule, x.errorPosition(), FOUR.length() + 5 + at);
    }

    // ---- what an object shows

    static String shown(SwapChoices x, int choice) {
        StringBuilder text = new StringBuilder();
        int length = x.format(choice);
        for (int i = 0; i < length; i++) text.append((char) x.formattedByte(i));
        return text.toString();
    }

    /** Which choices a test holds for, as a text of their numbers. */
    static String heldFor(SwapChoices x, String test) {
        int rule = add(x, test);
        if (rule < 0) return "error " + rule;
        StringBuilder held = new StringBuilder();
        int choices = x.size(2);
        for (int c = 0; c < choices; c++) if (x.holds(rule, c)) held.append(c);
        x.dropRule(rule);
        return held.toString();
    }

    static String allowed(SwapChoices x) {
        StringBuilder text = new StringBuilder();
        int choices = x.size(2);
        for (int c = 0; c < choices; c++) if (x.choice(c, 2) == 1) text.append(c);
        return text.toString();
    }

    static String trailOf(SwapChoices x) {
        StringBuilder text = new StringBuilder();
        for (int p = 0; x.trail(p) >= 0; p++) text.append(x.trail(p)).append(' ');
        return text.toString();
    }

    /** All that can be seen of a state. */
    static String all(SwapChoices x) {
        StringBuilder text = new StringBuilder();
        for (int what = 0; what < 14; what++) text.append(x.size(what)).append(' ');
        for (int t = 0; t < x.size(0); t++) text.append(x.weight(t)).append(' ').append(x.nameByte(t, 0)).append(' ');
        for (int c = 0; c < x.size(2); c++) {
            for (int what = 0; what < 10; what++) text.append(x.choice(c, what)).append(' ');
            text.append(x.why(c)).append(' ').append(x.against(c)).append(' ');
        }
        for (int r = 0; r < x.size(6); r++) {
            for (int what = 0; what < 4; what++) text.append(x.rule(r, what)).append(' ');
        }
        return text.toString();
    }

    /** What can be seen of a state by few calls: an object has but 512. */
    static String brief(SwapChoices x) {
        StringBuilder text = new StringBuilder();
        for (int what = 0; what < 14; what++) text.append(x.size(what)).append(' ');
        int things = x.size(0);
        for (int t = 0; t < things; t++) text.append(x.weight(t)).append(' ');
        int choices = x.size(2);
        for (int c = 0; c < choices; c++) text.append(x.why(c)).append(' ').append(x.choice(c, 4)).append(' ');
        int rules = x.size(6);
        for (int r = 0; r < rules; r++) {
            text.append(x.rule(r, 0)).append(' ').append(x.rule(r, 1)).append(' ').append(x.rule(r, 3)).append(' ');
        }
        return text.append(trailOf(x)).append(x.undoCount()).toString();
    }
}
