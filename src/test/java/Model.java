import java.util.ArrayDeque;
import java.util.ArrayList;
import java.util.Arrays;
import java.util.HashMap;
import java.util.HashSet;
import java.util.LinkedHashMap;
import java.util.List;
import java.util.Map;
import java.util.NoSuchElementException;
import java.util.Set;
import java.util.TreeSet;

/**
 * A second, slow SwapChoices, written from the document alone with what the Java library has:
 * no caches, no tables, every answer found anew. RandomRunsTest holds the two against each other.
 */
final class Model {
    static final Set<String> QUOTED = new HashSet<>(Arrays.asList("choose", "mode", "thing", "rule", "strike", "or",
            "and", "not", "all", "any", "none", "most", "least", "weight", "number"));

    interface Check {
        boolean ok(int choice, World world);
    }

    static final class Rule {
        Check check;
        int tokens;
        boolean on = true;

        Rule twin() {
            Rule twin = new Rule();
            twin.check = check;
            twin.tokens = tokens;
            twin.on = on;
            return twin;
        }
    }

    /** All that undoing restores, and what load sets. */
    static final class World {
        int k;
        List<String> names = new ArrayList<>();
        List<Integer> weights = new ArrayList<>();
        List<Set<Integer>> choices = new ArrayList<>();
        List<Rule> rules = new ArrayList<>();
        Set<Integer> struck = new TreeSet<>();
        List<Integer> trail = new ArrayList<>();
        List<Integer> swapsBefore = new ArrayList<>();
        int now = -1;
        int steps = 0;
        int swaps = 0;
        int mode = 0;

        World twin() {
            World w = new World();
            w.k = k;
            w.names = new ArrayList<>(names);
            w.weights = new ArrayList<>(weights);
            w.choices = choices;
            for (Rule r : rules) w.rules.add(r.twin());
            w.struck = new TreeSet<>(struck);
            w.trail = new ArrayList<>(trail);
            w.swapsBefore = new ArrayList<>(swapsBefore);
            w.now = now;
            w.steps = steps;
            w.swaps = swaps;
            w.mode = mode;
            return w;
        }

        int weightOf(int choice) {
            int sum = 0;
            for (int t : choices.get(choice)) sum += weights.get(t);
            return sum;
        }

        int apart(int a, int b) {
            int count = 0;
            for (int t : choices.get(a)) if (!choices.get(b).contains(t)) count++;
            return count;
        }

        boolean ok(int choice) {
            if (struck.contains(choice)) return false;
            for (Rule r : rules) if (r.on && !r.check.ok(choice, this)) return false;
            return true;
        }

        TreeSet<Integer> allowed() {
            TreeSet<Integer> found = new TreeSet<>();
            for (int c = 0; c < choices.size(); c++) if (ok(c)) found.add(c);
            return found;
        }

        int coming() {
            TreeSet<Integer> left = allowed();
            left.removeAll(trail);
            if (left.isEmpty()) return -1;
            if (mode == 0) {
                Integer above = now < 0 ? null : left.higher(now);
                return above == null ? left.first() : above;
            }
            int best = -1;
            for (int c : left) {
                if (best < 0) {
                    best = c;
                    continue;
                }
                int nearer = now < 0 ? 0 : Integer.compare(apart(now, c), apart(now, best));
                int lighter = Integer.compare(weightOf(c), weightOf(best));
                if (mode == 1 ? nearer < 0 : lighter < 0 || lighter == 0 && nearer < 0) best = c;
            }
            return best;
        }

        void goTo(int choice) {
            swapsBefore.add(swaps);
            if (now >= 0) swaps += apart(now, choice);
            now = choice;
            trail.add(choice);
            steps++;
        }

        List<TreeSet<Integer>> parts(TreeSet<Integer> allowed) {
            List<TreeSet<Integer>> found = new ArrayList<>();
            TreeSet<Integer> rest = new TreeSet<>(allowed);
            while (!rest.isEmpty()) {
                TreeSet<Integer> part = new TreeSet<>(lengthsFrom(rest.first(), allowed).keySet());
                found.add(part);
                rest.removeAll(part);
            }
            return found;
        }

        Map<Integer, Integer> lengthsFrom(int start, TreeSet<Integer> allowed) {
            Map<Integer, Integer> lengths = new HashMap<>();
            ArrayDeque<Integer> open = new ArrayDeque<>();
            lengths.put(start, 0);
            open.add(start);
            while (!open.isEmpty()) {
                int c = open.remove();
                for (int o : allowed) {
                    if (!lengths.containsKey(o) && apart(c, o) == 1) {
                        lengths.put(o, lengths.get(c) + 1);
                        open.add(o);
                    }
                }
            }
            return lengths;
        }
    }

    /** The order, word by word as the document says it. */
    static List<Set<Integer>> order(int j, int m) {
        List<Set<Integer>> found = new ArrayList<>();
        if (j == 0) {
            found.add(new TreeSet<>());
            return found;
        }
        if (j == m) {
            Set<Integer> all = new TreeSet<>();
            for (int t = 0; t < m; t++) all.add(t);
            found.add(all);
            return found;
        }
        found.addAll(order(j, m - 1));
        List<Set<Integer>> others = order(j - 1, m - 1);
        for (int i = others.size() - 1; i >= 0; i--) {
            Set<Integer> with = new TreeSet<>(others.get(i));
            with.add(m - 1);
            found.add(with);
        }
        return found;
    }

    World w;
    final List<Byte> buffer = new ArrayList<>();
    int errorAt = -1;
    final ArrayDeque<World> past = new ArrayDeque<>();
    World snapshot;
    String shown = "";

    Model() {
        try {
            w = new Parser("choose 2;thing a 1;thing b 2;thing c 3;thing d 4;").text();
        } catch (Wrong e) {
            throw new IllegalStateException(e);
        }
    }

    // ---- reading

    static final class Wrong extends Exception {
        private static final long serialVersionUID = 1;
        final int code;
        final int at;

        Wrong(int code, int at) {
            this.code = code;
            this.at = at;
        }
    }

    /** Reads letter by letter: the next token is looked up each time. */
    static final class Parser {
        final String text;
        int at = 0;
        int taken = 0;
        World world;

        Parser(String text) {
            this.text = text;
        }

        String peek() {
            while (at < text.length() && (text.charAt(at) == ' ' || text.charAt(at) == '\n')) at++;
            if (at == text.length()) return "";
            int end = at;
            while (end < text.length() && text.charAt(end) >= 'a' && text.charAt(end) <= 'z') end++;
            if (end == at) while (end < text.length() && text.charAt(end) >= '0' && text.charAt(end) <= '9') end++;
            if (end == at) end++;
            return text.substring(at, end);
        }

        String take() {
            String token = peek();
            at += token.length();
            taken++;
            return token;
        }

        Wrong wrong(int code) {
            peek();
            return new Wrong(code, at);
        }

        static boolean isWord(String token) {
            return token.matches("[a-z]+");
        }

        void need(String token) throws Wrong {
            if (!peek().equals(token)) throw wrong(1);
            take();
        }

        int number(int least, int most) throws Wrong {
            String token = peek();
            if (!token.matches("[0-9]+")) throw wrong(1);
            java.math.BigInteger value = new java.math.BigInteger(token);
            if (value.compareTo(java.math.BigInteger.valueOf(least)) < 0) throw wrong(2);
            if (value.compareTo(java.math.BigInteger.valueOf(most)) > 0) throw wrong(2);
            take();
            return value.intValue();
        }

        World text() throws Wrong {
            world = new World();
            need("choose");
            world.k = number(1, 9);
            if (peek().equals("mode")) {
                take();
                world.mode = number(0, 2);
            }
            need(";");
            do {
                if (world.names.size() == 10 && peek().equals("thing")) throw wrong(5);
                need("thing");
                String name = peek();
                if (!isWord(name)) throw wrong(1);
                if (QUOTED.contains(name) || name.length() > 6 || world.names.contains(name)) throw wrong(3);
                take();
                world.weights.add(number(0, 99));
                world.names.add(name);
                need(";");
            } while (peek().equals("thing"));
            if (!Arrays.asList("", "rule", "strike").contains(peek())) throw wrong(1);
            if (world.names.size() <= world.k) throw wrong(6);
            world.choices = order(world.k, world.names.size());
            while (!peek().isEmpty()) {
                if (peek().equals("rule")) rule();
                else strike();
            }
            return world;
        }

        void rule() throws Wrong {
            if (world.rules.size() == 10) throw wrong(5);
            take();
            world.rules.add(tested());
            need(";");
        }

        Rule tested() throws Wrong {
            Rule rule = new Rule();
            taken = 0;
            rule.check = test(0);
            rule.tokens = taken;
            return rule;
        }

        void strike() throws Wrong {
            need("strike");
            Set<Integer> things = new TreeSet<>();
            do {
                String name = peek();
                if (!isWord(name)) throw wrong(1);
                int thing = world.names.indexOf(name);
                if (thing < 0 || things.contains(thing)) throw wrong(4);
                if (things.size() == world.k) throw wrong(5);
                take();
                things.add(thing);
            } while (!peek().equals(";"));
            int choice = world.choices.indexOf(things);
            if (things.size() < world.k || world.struck.contains(choice)) throw wrong(6);
            world.struck.add(choice);
            take();
        }

        Check test(int open) throws Wrong {
            Check left = conjunction(open);
            while (peek().equals("or")) {
                take();
                Check a = left;
                Check b = conjunction(open);
                left = (c, x) -> a.ok(c, x) || b.ok(c, x);
            }
            return left;
        }

        Check conjunction(int open) throws Wrong {
            Check left = factor(open);
            while (peek().equals("and")) {
                take();
                Check a = left;
                Check b = factor(open);
                left = (c, x) -> a.ok(c, x) && b.ok(c, x);
            }
            return left;
        }

        Check factor(int open) throws Wrong {
            String token = peek();
            if ((token.equals("not") || token.equals("(")) && open == 6) throw wrong(7);
            switch (token) {
                case "not": {
                    take();
                    Check a = factor(open + 1);
                    return (c, x) -> !a.ok(c, x);
                }
                case "(": {
                    take();
                    Check a = test(open + 1);
                    need(")");
                    return a;
                }
                case "all": {
                    take();
                    Set<Integer> list = list();
                    return (c, x) -> x.choices.get(c).containsAll(list);
                }
                case "any": {
                    take();
                    Set<Integer> list = list();
                    return (c, x) -> shared(x.choices.get(c), list) > 0;
                }
                case "none": {
                    take();
                    Set<Integer> list = list();
                    return (c, x) -> shared(x.choices.get(c), list) == 0;
                }
                case "most": {
                    take();
                    int limit = number(0, 10);
                    Set<Integer> list = list();
                    return (c, x) -> shared(x.choices.get(c), list) <= limit;
                }
                case "least": {
                    take();
                    int limit = number(0, 10);
                    Set<Integer> list = list();
                    return (c, x) -> shared(x.choices.get(c), list) >= limit;
                }
                case "weight":
                case "number": {
                    take();
                    boolean weighs = token.equals("weight");
                    String sign = peek();
                    if (!sign.matches("[<=>]")) throw wrong(1);
                    take();
                    int limit = number(0, 9999);
                    return (c, x) -> {
                        int order = Integer.compare(weighs ? x.weightOf(c) : c, limit);
                        return sign.equals("<") ? order < 0 : sign.equals(">") ? order > 0 : order == 0;
                    };
                }
                default: {
                    int thing = named();
                    return (c, x) -> x.choices.get(c).contains(thing);
                }
            }
        }

        int named() throws Wrong {
            String token = peek();
            if (!isWord(token) || QUOTED.contains(token)) throw wrong(1);
            int thing = world.names.indexOf(token);
            if (thing < 0) throw wrong(4);
            take();
            return thing;
        }

        Set<Integer> list() throws Wrong {
            need("(");
            Set<Integer> things = new TreeSet<>();
            do {
                things.add(named());
            } while (!peek().equals(")"));
            take();
            return things;
        }

        static int shared(Set<Integer> a, Set<Integer> b) {
            Set<Integer> both = new TreeSet<>(a);
            both.retainAll(b);
            return both.size();
        }
    }

    String takeText(int length) {
        StringBuilder text = new StringBuilder();
        for (int i = 0; i < length; i++) text.append((char) (buffer.get(i) & 255));
        buffer.clear();
        return text.toString();
    }

    // ---- the face

    int feed(int a, int b, int c, int d, int e) {
        if (buffer.size() + 20 > 800) return -1;
        for (int four : new int[] {a, b, c, d, e}) {
            for (byte one : java.nio.ByteBuffer.allocate(4).putInt(four).array()) buffer.add(one);
        }
        return buffer.size();
    }

    int load(int length) {
        if (length < 0 || length > buffer.size()) throw new IllegalArgumentException();
        try {
            w = new Parser(takeText(length)).text();
        } catch (Wrong e) {
            errorAt = e.at;
            return -10 - e.code;
        }
        errorAt = -1;
        past.clear();
        snapshot = null;
        return w.allowed().size();
    }

    int errorPosition() {
        return errorAt;
    }

    int size(int what) {
        TreeSet<Integer> allowed = w.allowed();
        TreeSet<Integer> left = new TreeSet<>(allowed);
        left.removeAll(w.trail);
        int on = 0;
        for (Rule r : w.rules) if (r.on) on++;
        Map<Integer, Integer> all = new LinkedHashMap<>();
        int[] values = {w.names.size(), w.k, w.choices.size(), allowed.size(), w.trail.size(), w.struck.size(),
            w.rules.size(), on, w.mode, w.now, w.steps, w.swaps, what == 12 ? w.parts(allowed).size() : 0, left.size()};
        for (int i = 0; i < values.length; i++) all.put(i, values[i]);
        if (!all.containsKey(what)) throw new IllegalArgumentException();
        return all.get(what);
    }

    void thing(int thing) {
        if (thing < 0 || thing >= w.names.size()) throw new NoSuchElementException();
    }

    void there(int choice) {
        if (choice < 0 || choice >= w.choices.size()) throw new NoSuchElementException();
    }

    Rule ruled(int rule) {
        if (rule < 0 || rule >= w.rules.size()) throw new NoSuchElementException();
        return w.rules.get(rule);
    }

    int weight(int thing) {
        thing(thing);
        return w.weights.get(thing);
    }

    int nameByte(int thing, int index) {
        thing(thing);
        String name = w.names.get(thing);
        return index < 0 || index >= name.length() ? -1 : name.charAt(index);
    }

    int choice(int choice, int what) {
        there(choice);
        if (what < 0 || what > 9) throw new IllegalArgumentException();
        Set<Integer> things = w.choices.get(choice);
        Set<Integer> before = w.choices.get(choice == 0 ? w.choices.size() - 1 : choice - 1);
        switch (what) {
            case 0: {
                int bits = 0;
                for (int t : things) bits += 1 << t;
                return bits;
            }
            case 1: return w.weightOf(choice);
            case 2: return w.ok(choice) ? 1 : 0;
            case 3: return w.trail.contains(choice) ? 1 : 0;
            case 4: return w.struck.contains(choice) ? 1 : 0;
            case 5: return only(before, things);
            case 6: return only(things, before);
            case 7: {
                List<TreeSet<Integer>> parts = w.parts(w.allowed());
                for (int p = 0; p < parts.size(); p++) if (parts.get(p).contains(choice)) return p;
                return -1;
            }
            case 8: {
                int count = 0;
                for (int o : w.allowed()) if (w.ok(choice) && w.apart(choice, o) == 1) count++;
                return count;
            }
            default: return w.trail.indexOf(choice);
        }
    }

    static int only(Set<Integer> a, Set<Integer> b) {
        Set<Integer> rest = new TreeSet<>(a);
        rest.removeAll(b);
        if (rest.size() != 1) throw new IllegalStateException("no swap");
        return rest.iterator().next();
    }

    int numberOf(int things) {
        Set<Integer> set = new TreeSet<>();
        for (int t = 0; t < 32; t++) if ((things >>> t & 1) == 1) set.add(t);
        return w.choices.indexOf(set);
    }

    int distance(int choice, int other) {
        there(choice);
        there(other);
        return w.apart(choice, other);
    }

    int swapped(int choice, int out, int in) {
        there(choice);
        thing(out);
        thing(in);
        Set<Integer> set = new TreeSet<>(w.choices.get(choice));
        if (!set.contains(out) || set.contains(in)) return -1;
        set.remove(out);
        set.add(in);
        return w.choices.indexOf(set);
    }

    int nearest(int choice, boolean up) {
        there(choice);
        Integer found = up ? w.allowed().higher(choice) : w.allowed().lower(choice);
        return found == null ? -1 : found;
    }

    int with(int thing) {
        thing(thing);
        int count = 0;
        for (int c : w.allowed()) if (w.choices.get(c).contains(thing)) count++;
        return count;
    }

    int heaviest() {
        int best = -1;
        for (int c : w.allowed()) if (best < 0 || w.weightOf(c) > w.weightOf(best)) best = c;
        return best;
    }

    boolean holds(int rule, int choice) {
        Rule r = ruled(rule);
        there(choice);
        return r.check.ok(choice, w);
    }

    int rule(int rule, int what) {
        Rule r = ruled(rule);
        switch (what) {
            case 0: return r.on ? 1 : 0;
            case 1: {
                int count = 0;
                for (int c = 0; c < w.choices.size(); c++) if (r.check.ok(c, w)) count++;
                return count;
            }
            case 2: {
                World off = w.twin();
                off.rules.get(rule).on = false;
                TreeSet<Integer> gained = off.allowed();
                gained.removeAll(w.allowed());
                return gained.size();
            }
            case 3: return r.tokens;
            default: throw new IllegalArgumentException();
        }
    }

    int why(int choice) {
        there(choice);
        if (w.struck.contains(choice)) return 1;
        for (int r = 0; r < w.rules.size(); r++) {
            if (w.rules.get(r).on && !w.rules.get(r).check.ok(choice, w)) return 100 + r;
        }
        if (w.trail.contains(choice)) return 2;
        return w.coming() == choice ? 0 : 3;
    }

    int against(int choice) {
        there(choice);
        int count = 0;
        for (Rule r : w.rules) if (r.on && !r.check.ok(choice, w)) count++;
        return count;
    }

    int next() {
        return w.coming();
    }

    int trail(int place) {
        return place < 0 || place >= w.trail.size() ? -1 : w.trail.get(place);
    }

    int swapsToEnd(int mode) {
        if (mode < 0 || mode > 2) throw new IllegalArgumentException();
        World x = w.twin();
        x.mode = mode;
        for (int c = x.coming(); c >= 0; c = x.coming()) x.goTo(c);
        return x.swaps - w.swaps;
    }

    int bestMode() {
        int best = 0;
        for (int m = 1; m < 3; m++) if (swapsToEnd(m) < swapsToEnd(best)) best = m;
        return best;
    }

    int ahead(int i) {
        if (i < 0) throw new IllegalArgumentException();
        World x = w.twin();
        for (int made = 0; made < i; made++) {
            int c = x.coming();
            if (c < 0) return -1;
            x.goTo(c);
        }
        return x.coming();
    }

    int far(int choice, int other) {
        there(choice);
        there(other);
        if (!w.ok(choice) || !w.ok(other)) return -1;
        return w.lengthsFrom(choice, w.allowed()).getOrDefault(other, -1);
    }

    int toward(int choice, int other) {
        there(choice);
        there(other);
        int far = far(choice, other);
        if (far <= 0) return -1;
        for (int c : w.allowed()) if (w.apart(choice, c) == 1 && far(c, other) == far - 1) return c;
        throw new IllegalStateException("no first swap");
    }

    int part(int part, int what) {
        TreeSet<Integer> allowed = w.allowed();
        List<TreeSet<Integer>> parts = w.parts(allowed);
        if (part < 0 || part >= parts.size()) throw new NoSuchElementException();
        switch (what) {
            case 0: return parts.get(part).first();
            case 1: return parts.get(part).size();
            case 2: {
                int most = 0;
                for (int length : w.lengthsFrom(parts.get(part).first(), allowed).values()) most = Math.max(most, length);
                return most;
            }
            default: throw new IllegalArgumentException();
        }
    }

    World switched(int rule) {
        ruled(rule);
        World x = w.twin();
        x.rules.get(rule).on = !x.rules.get(rule).on;
        return x;
    }

    int allowedIf(int rule) {
        return switched(rule).allowed().size();
    }

    int partsIf(int rule) {
        World x = switched(rule);
        return x.parts(x.allowed()).size();
    }

    int strictest() {
        int best = -1;
        for (int r = 0; r < w.rules.size(); r++) {
            if (w.rules.get(r).on && (best < 0 || allowedIf(r) > allowedIf(best))) best = r;
        }
        return best;
    }

    int bridge() {
        int best = -1;
        int most = -1;
        for (int c : w.allowed()) {
            World x = w.twin();
            x.struck.add(c);
            int parts = x.parts(x.allowed()).size();
            if (parts > most) {
                best = c;
                most = parts;
            }
        }
        return best;
    }

    double meanWeight() {
        double sum = 0;
        for (int c : w.allowed()) sum += w.weightOf(c);
        return w.allowed().isEmpty() ? 0 : sum / (double) w.allowed().size();
    }

    float visitedShare() {
        TreeSet<Integer> seen = w.allowed();
        seen.retainAll(w.trail);
        return w.allowed().isEmpty() ? 1 : (float) seen.size() / (float) w.allowed().size();
    }

    void record() {
        past.push(w.twin());
        if (past.size() > 10) past.removeLast();
    }

    int step() {
        int c = w.coming();
        if (c < 0) return -2;
        record();
        w.goTo(c);
        return c;
    }

    int steps(int most) {
        if (most < 1 || most > 200) throw new IllegalArgumentException();
        record();
        int made = 0;
        while (made < most && w.coming() >= 0) {
            w.goTo(w.coming());
            made++;
        }
        return made;
    }

    int swap(int out, int in) {
        thing(out);
        thing(in);
        if (w.now < 0) return -2;
        int c = swapped(w.now, out, in);
        if (c < 0) return -3;
        if (!w.ok(c)) return -4;
        if (w.trail.contains(c)) return -5;
        record();
        w.goTo(c);
        return c;
    }

    int back() {
        if (w.trail.isEmpty()) return -2;
        record();
        int last = w.trail.size() - 1;
        w.trail.remove(last);
        w.swaps = w.swapsBefore.remove(last);
        w.steps--;
        w.now = last == 0 ? -1 : w.trail.get(last - 1);
        return w.now + 1;
    }

    int reset() {
        record();
        int had = w.trail.size();
        w.trail.clear();
        w.swapsBefore.clear();
        w.now = -1;
        w.steps = 0;
        w.swaps = 0;
        return had;
    }

    int setMode(int mode) {
        if (mode < 0 || mode > 2) throw new IllegalArgumentException();
        record();
        int before = w.mode;
        w.mode = mode;
        return before;
    }

    int setWeight(int thing, int weight) {
        thing(thing);
        if (weight < 0 || weight > 99) throw new IllegalArgumentException();
        record();
        return w.weights.set(thing, weight);
    }

    int addRule(int length) {
        if (length < 0 || length > buffer.size()) throw new IllegalArgumentException();
        if (w.rules.size() == 10) return -2;
        Rule rule;
        try {
            rule = alone(takeText(length));
        } catch (Wrong e) {
            errorAt = e.at;
            return -10 - e.code;
        }
        errorAt = -1;
        record();
        w.rules.add(rule);
        return w.rules.size() - 1;
    }

    Rule alone(String text) throws Wrong {
        Parser parser = new Parser(text);
        parser.world = w;
        Rule rule = parser.tested();
        parser.need("");
        return rule;
    }

    int dropRule(int rule) {
        ruled(rule);
        record();
        w.rules.remove(rule);
        return w.rules.size();
    }

    int switchRule(int rule) {
        ruled(rule);
        record();
        w.rules.get(rule).on = !w.rules.get(rule).on;
        return w.allowed().size();
    }

    boolean strike(int choice, boolean out) {
        there(choice);
        record();
        return out ? w.struck.add(choice) : w.struck.remove(choice);
    }

    int many(int length, boolean allowed) {
        if (length < 0 || length > 200 || length > buffer.size()) throw new IllegalArgumentException();
        Rule rule;
        try {
            rule = alone(takeText(length));
        } catch (Wrong e) {
            errorAt = e.at;
            return -1000000 - e.code;
        }
        errorAt = -1;
        int count = 0;
        for (int c = 0; c < w.choices.size(); c++) {
            if ((!allowed || w.ok(c)) && rule.check.ok(c, w)) count++;
        }
        return count;
    }

    int format(int choice) {
        there(choice);
        List<String> names = new ArrayList<>();
        for (int t : w.choices.get(choice)) names.add(w.names.get(t));
        shown = String.join(" ", names) + (w.now == choice ? "*" : "") + (w.trail.contains(choice) ? "!" : "")
            + (w.ok(choice) ? "" : "-");
        return shown.length();
    }

    int formattedByte(int index) {
        return index < 0 || index >= shown.length() ? -1 : shown.charAt(index);
    }

    int undoCount() {
        return past.size();
    }

    int undo() {
        if (past.isEmpty()) return -1;
        w = past.pop();
        return past.size();
    }

    void saveSnapshot() {
        snapshot = w.twin();
    }

    boolean restoreSnapshot() {
        if (snapshot == null) return false;
        w = snapshot.twin();
        past.clear();
        return true;
    }
}
