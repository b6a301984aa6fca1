import java.util.ArrayList;
import java.util.List;
import java.util.Random;

/** Makes texts of the grammar, and spoils some of them. The same seed makes the same texts. */
final class Texts {
    private static final String[] ANY_TOKENS = {"choose", "mode", "thing", "rule", "strike", "or", "and", "not", "all",
        "any", "none", "most", "least", "weight", "number", ";", "(", ")", "<", "=", ">", "a", "b", "zz", "longname",
        "0", "1", "2", "9", "10", "11", "99", "100", "9999", "10000", "007", "99999999999999999999", "A", "-", "\u00e9",
        "\t", "not not not", "((((", "((((((("};

    private final Random random;
    List<String> names = new ArrayList<>();
    int chosen;

    Texts(Random random) {
        this.random = random;
    }

    private int below(int bound) {
        return random.nextInt(bound);
    }

    private boolean chance(int percent) {
        return below(100) < percent;
    }

    private String blank() {
        return chance(90) ? " " : chance(50) ? "\n" : "  ";
    }

    private String freshName(List<String> taken) {
        while (true) {
            StringBuilder name = new StringBuilder();
            int letters = chance(70) ? 1 : 1 + below(6);
            for (int i = 0; i < letters; i++) name.append((char) ('a' + below(26)));
            if (!taken.contains(name.toString()) && !Model.QUOTED.contains(name.toString())) return name.toString();
        }
    }

    /** A text; the names in it are the ones for later tests if the load is good. */
    String text(int mostThings) {
        int n = 2 + below(mostThings - 1);
        int k = 1 + below(n - 1);
        List<String> fresh = new ArrayList<>();
        StringBuilder text = new StringBuilder("choose" + blank() + k);
        if (chance(50)) text.append(blank()).append("mode").append(blank()).append(below(3));
        text.append(";");
        int heavy = chance(50) ? 4 : 100;
        for (int t = 0; t < n; t++) {
            String name = freshName(fresh);
            fresh.add(name);
            text.append("thing ").append(name).append(blank()).append(below(heavy)).append(";");
        }
        names = fresh;
        chosen = k;
        int clauses = chance(20) ? 0 : chance(10) ? 14 : below(6);
        for (int i = 0; i < clauses; i++) {
            if (chance(60)) text.append("rule ").append(test()).append(";");
            else text.append("strike").append(strikeNames()).append(";");
        }
        String made = text.toString();
        return chance(30) ? spoiled(made) : made;
    }

    private String strikeNames() {
        List<String> rest = new ArrayList<>(names);
        StringBuilder text = new StringBuilder();
        int told = chance(95) ? chosen : 1 + below(names.size());
        for (int i = 0; i < told; i++) text.append(' ').append(rest.remove(below(rest.size())));
        return text.toString();
    }

    String test() {
        return test(0);
    }

    String spoiledTest() {
        String made = test(0);
        return chance(30) ? spoiled(made) : made;
    }

    private String test(int depth) {
        StringBuilder text = new StringBuilder();
        int parts = chance(60) ? 1 : 1 + below(3);
        for (int i = 0; i < parts; i++) {
            if (i > 0) text.append(chance(50) ? " or " : " and ");
            text.append(factor(depth));
        }
        return text.toString();
    }

    private String factor(int depth) {
        int most = chance(20) ? 7 : 3;
        if (depth < most && chance(20)) return "not " + factor(depth + 1);
        if (depth < most && chance(20)) return "(" + test(depth + 1) + ")";
        switch (below(9)) {
            case 0: return "all" + list(2);
            case 1: return "any" + list(4);
            case 2: return "none" + list(2);
            case 3: return "most " + below(chance(90) ? 4 : 13) + list(5);
            case 4: return "least " + below(chance(90) ? 3 : 13) + list(6);
            case 5: return "weight" + sign() + below(chance(50) ? 20 : 400);
            case 6: return "number" + sign() + below(chance(50) ? 10 : 260);
            default: return name();
        }
    }

    private String sign() {
        return chance(45) ? " < " : chance(80) ? ">" : "=";
    }

    private String name() {
        return names.get(below(names.size()));
    }

    private String list(int most) {
        StringBuilder text = new StringBuilder("(");
        int told = 1 + below(most);
        for (int i = 0; i < told; i++) text.append(i > 0 ? " " : "").append(name());
        return text.append(")").toString();
    }

    private String spoiled(String text) {
        String made = text;
        int times = 1 + below(2);
        for (int i = 0; i < times; i++) {
            int at = below(made.length() + 1);
            int end = Math.min(made.length(), at + below(4));
            String put = chance(30) ? "" : ANY_TOKENS[below(ANY_TOKENS.length)];
            switch (below(4)) {
                case 0:
                    made = made.substring(0, at);
                    break;
                case 1:
                    made = made.substring(0, at) + put + made.substring(end);
                    break;
                case 2:
                    made = made.substring(0, at) + " " + put + " " + made.substring(at);
                    break;
                default:
                    made = swappedTokens(made);
                    break;
            }
        }
        return made;
    }

    private String swappedTokens(String text) {
        String[] tokens = text.split("(?<=[;() ])");
        int a = below(tokens.length);
        int b = below(tokens.length);
        String kept = tokens[a];
        tokens[a] = tokens[b];
        if (chance(50)) tokens[b] = kept;
        return String.join("", tokens);
    }
}
