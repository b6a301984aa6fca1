import java.lang.reflect.InvocationTargetException;
import java.lang.reflect.Method;
import java.util.ArrayList;
import java.util.List;
import java.util.Random;
import java.util.TreeMap;

/** Long runs of calls by fixed seeds: SwapChoices must answer each one as the Model does. */
public final class RandomRunsTest {
    private static final int MOST_CALLS = 512;

    // Name and the kinds of arguments: c choice, t thing, r rule, w a 'what', m mode, p place, f flag, and so on.
    private static final String[] ASKS = {"size w14", "weight t", "nameByte t l", "choice c w10", "numberOf b",
        "distance c c", "swapped c t t", "nearest c f", "with t", "heaviest", "holds r c", "rule r w4", "why c",
        "against c", "next", "trail p", "swapsToEnd m", "bestMode", "ahead p", "far c c", "toward c c", "part q w3",
        "allowedIf r", "partsIf r", "strictest", "bridge", "meanWeight", "visitedShare", "format c", "formattedByte i",
        "undoCount", "errorPosition"};
    private static final String[] CHANGES = {"step", "step", "step", "step", "step", "steps s", "swap t t", "swap t t",
        "swap t t", "back", "back", "reset", "setMode m", "setWeight t g", "dropRule r", "switchRule r", "switchRule r",
        "strike c f", "strike c f", "undo", "undo", "saveSnapshot", "restoreSnapshot"};

    private final Random random;
    private final Texts texts;
    private final SwapChoices real = new SwapChoices();
    private final Model model = new Model();
    private final List<String> told = new ArrayList<>();
    private final int seed;
    private final int mostThings;
    private int calls = 0;
    private boolean good = true;
    private static final TreeMap<String, Integer> SEEN = new TreeMap<>();

    private RandomRunsTest(int seed, int mostThings) {
        this.seed = seed;
        this.mostThings = mostThings;
        random = new Random(seed);
        texts = new Texts(random);
        texts.names = new ArrayList<>(model.w.names);
        texts.chosen = 2;
    }

    public static void main(String[] args) throws Exception {
        int runs = args.length > 0 ? Integer.parseInt(args[0]) : 600;
        int wrong = 0;
        for (int seed = 0; seed < runs && wrong < 5; seed++) {
            int most = args.length > 2 ? Integer.parseInt(args[2]) : seed % 25 == 24 ? 10 : seed % 5 == 4 ? 7 : 5;
            RandomRunsTest run = new RandomRunsTest(seed, most);
            if (!run.goes()) wrong++;
        }
        if (args.length > 1) System.out.println(SEEN);
        System.out.println(wrong == 0 ? runs + " random runs are as the model's" : wrong + " random runs are not as the model's");
        if (wrong != 0) System.exit(1);
    }

    private int below(int bound) {
        return random.nextInt(bound);
    }

    private boolean chance(int percent) {
        return below(100) < percent;
    }

    private boolean goes() throws Exception {
        if (chance(85)) loads();
        while (calls < MOST_CALLS - 50 && good) {
            int kind = below(100);
            if (kind < 2) loads();
            else if (kind < 6) tests("addRule");
            else if (kind < 9) tests("many");
            else if (kind < 10) feeds(junk(), 0);
            else if (kind < 45) calls(CHANGES[below(CHANGES.length)]);
            else calls(ASKS[below(ASKS.length)]);
        }
        return good;
    }

    private void loads() throws Exception {
        List<String> before = texts.names;
        int chosen = texts.chosen;
        String text = texts.text(mostThings);
        boolean fits = feeds(text, below(3));
        if (!fits) return;
        call("load", new Object[] {chance(97) ? Math.min(text.length(), model.buffer.size()) : below(1000) - 50});
        if (!model.w.names.equals(texts.names)) {
            texts.names = before;
            texts.chosen = chosen;
        }
        texts.names = new ArrayList<>(model.w.names);
        texts.chosen = model.w.k;
    }

    private void tests(String name) throws Exception {
        String text = texts.spoiledTest();
        feeds(text, below(2));
        int length = chance(97) ? text.length() : below(300) - 20;
        call(name, name.equals("many") ? new Object[] {length, chance(50)} : new Object[] {length});
    }

    private String junk() {
        StringBuilder text = new StringBuilder();
        int length = chance(90) ? 20 : 900;
        for (int i = 0; i < length; i++) text.append((char) below(256));
        return text.toString();
    }

    /** Empties the buffer by a call that fails, then feeds the text behind nothing else. */
    private boolean feeds(String text, int more) throws Exception {
        if (model.buffer.size() > 0 && chance(95)) call("many", new Object[] {0, true});
        StringBuilder padded = new StringBuilder(text);
        while (padded.length() % 20 != 0) padded.append(chance(90) ? ' ' : ';');
        for (int i = 0; i < more; i++) padded.append("                    ");
        boolean fits = true;
        for (int at = 0; at < padded.length() && calls < MOST_CALLS - 10; at += 20) {
            Object[] five = new Object[5];
            for (int i = 0; i < 5; i++) {
                int four = 0;
                for (int j = 0; j < 4; j++) four = four << 8 | padded.charAt(at + 4 * i + j);
                five[i] = four;
            }
            call("feed", five);
            fits = at + 20 <= 800;
        }
        return fits;
    }

    private void calls(String spec) throws Exception {
        String[] words = spec.split(" ");
        Object[] arguments = new Object[words.length - 1];
        for (int i = 1; i < words.length; i++) arguments[i - 1] = argument(words[i]);
        if (words[0].equals("swap") && chance(80) && model.w.now >= 0) {
            arguments[0] = pick(true);
            arguments[1] = pick(false);
        }
        // The model finds bridges by trying, which takes long with many choices.
        if (words[0].equals("bridge") && model.w.choices.size() > 60 && !chance(model.w.choices.size() > 130 ? 2 : 15)) return;
        call(words[0], arguments);
    }

    private int pick(boolean in) {
        for (int tries = 0; tries < 50; tries++) {
            int thing = below(model.w.names.size());
            if (model.w.choices.get(model.w.now).contains(thing) == in) return thing;
        }
        return 0;
    }

    private Object argument(String kind) {
        if (!kind.equals("f") && chance(1)) return chance(50) ? Integer.MAX_VALUE : Integer.MIN_VALUE + below(3);
        switch (kind.charAt(0)) {
            case 'c': return within(model.w.choices.size());
            case 't': return within(model.w.names.size());
            case 'r': return within(model.w.rules.size());
            case 'q': return within(chance(70) ? 2 : 8);
            case 'w': return within(Integer.parseInt(kind.substring(1)));
            case 'm': return within(3);
            case 'l': return within(7);
            case 'i': return within(chance(80) ? 12 : 70);
            case 'b': return chance(90) ? below(1 << model.w.names.size()) : random.nextInt();
            case 'p': return within(chance(50) ? 8 : 260);
            case 's': return chance(50) ? 1 + below(5) : within(chance(50) ? 202 : 20);
            case 'g': return within(chance(50) ? 8 : 100);
            default: return chance(65);
        }
    }

    private int within(int bound) {
        return chance(95) && bound > 0 ? below(bound) : chance(50) ? -1 : bound;
    }

    private void call(String name, Object[] arguments) throws Exception {
        if (!good) return;
        calls++;
        String due = answer(model, Model.class, name, arguments);
        String got = answer(real, SwapChoices.class, name, arguments);
        told.add(name + java.util.Arrays.toString(arguments) + " -> " + got);
        SEEN.merge(name + (got.startsWith("throws") ? " throws" : got.startsWith("-") ? " " + got : ""), 1, Integer::sum);
        if (!due.equals(got)) {
            good = false;
            System.out.println("seed " + seed + ", call " + calls + ": due is " + due);
            for (int i = 0; i < told.size(); i++) {
                if (told.size() < 60 || i > told.size() - 40) System.out.println("  " + told.get(i));
            }
        }
    }

    private static String answer(Object object, Class<?> type, String name, Object[] arguments) throws Exception {
        Class<?>[] types = new Class<?>[arguments.length];
        for (int i = 0; i < types.length; i++) types[i] = arguments[i] instanceof Boolean ? boolean.class : int.class;
        Method method = type.getDeclaredMethod(name, types);
        try {
            return String.valueOf(method.invoke(object, arguments));
        } catch (InvocationTargetException e) {
            return "throws " + e.getCause().getClass().getSimpleName();
        }
    }
}
