import java.util.Arrays;

/** A test for each boundary that the document names for texts: tokens, the grammar, numbers, the error codes. */
public final class TextsBoundariesTest extends Checks {
    private static final String[] QUOTED = {"choose", "mode", "thing", "rule", "strike", "or", "and", "not", "all", "any",
        "none", "most", "least", "weight", "number"};
    private static final String NINE_NOT = "not not not not not not not not not ";
    private static final String EIGHT_OPEN = "((((((((";

    public static void main(String[] args) {
        tokensAndGrammar();
        errorCodes();
        finish();
    }

    private static void tokensAndGrammar() {
        sentence("a word is a maximal run of the letters a to z;", TextsBoundariesTest::words);
        sentence("a number is a maximal run of digits (leading zeros are allowed);", TextsBoundariesTest::digits);
        sentence("each of the bytes ; ( ) < = > is a token.", TextsBoundariesTest::signs);
        sentence("The bytes 32 and 10 separate tokens and are otherwise ignored.", TextsBoundariesTest::blankBytes);
        sentence("Every other byte is an invalid token.", TextsBoundariesTest::everyByte);
        sentence("text: 'choose' K ['mode' MODE] ';' thing thing* clause*", TextsBoundariesTest::clausesOrNone);
        sentence("A name alone holds if its thing is chosen;", TextsBoundariesTest::nameAlone);
        sentence("'all', 'any' and 'none' if all, some and none of the things are;", TextsBoundariesTest::lists);
        sentence("'most' and 'least' if at most, at least so many of them are", TextsBoundariesTest::limits);
        sentence("(a name that is told twice in one list counts once)", TextsBoundariesTest::toldTwice);
        sentence("'weight' and 'number' compare the weight and the number of the choice.", TextsBoundariesTest::comparisons);
        sentence("'strike' strikes out the choice with these K things.", TextsBoundariesTest::strikes);
        sentence("The names of things are any words but those that are quoted here.", TextsBoundariesTest::names);
        sentence("K is 1 to 9;", TextsBoundariesTest::rangeOfK);
        sentence("numbers of 'most' and 'least' are 0 to 10, those behind 'weight' and 'number' 0 to 9999.",
            TextsBoundariesTest::ranges);
        sentence("MODE is 0 if it is not told.", TextsBoundariesTest::modeNotTold);
    }

    private static void errorCodes() {
        sentence("The first error along the text is reported, at the first byte of its token;", TextsBoundariesTest::firstError);
        sentence("if several codes apply to one token, the smallest one.", TextsBoundariesTest::smallestCode);
        sentence("1 The token is invalid or not allowed here,", TextsBoundariesTest::code1);
        sentence("or the text ends too early (the position is then the length of the text).", TextsBoundariesTest::endsTooEarly);
        sentence("2 A number that is out of range.", TextsBoundariesTest::code2);
        sentence("3 The name of a thing that is a quoted word, has more than 6 letters, or is that of an earlier thing.",
            TextsBoundariesTest::code3);
        sentence("4 A word in the place of a name that is no thing (in a factor: of words that are not quoted);",
            TextsBoundariesTest::code4);
        sentence("a name that is told for the second time in one 'strike'.", TextsBoundariesTest::code4Twice);
        sentence("5 The keyword of the 11th thing,", TextsBoundariesTest::code5Thing);
        sentence("or of the 11th rule;", TextsBoundariesTest::code5Rule);
        sentence("the (K + 1)th name of a 'strike'.", TextsBoundariesTest::code5Strike);
        sentence("6 The first token behind the things (or the end of the text), if there are not more than K;",
            TextsBoundariesTest::code6Things);
        sentence("the ; of a 'strike' with fewer than K names,", TextsBoundariesTest::code6Strike);
        sentence("or of a choice that is struck out already.", TextsBoundariesTest::code6Already);
        sentence("7 A 'not' or '(' of a test that would be the seventh one open at the same time.", TextsBoundariesTest::code7);
        sentence("A 'not' is open until the end of its factor;", TextsBoundariesTest::code7Not);
        sentence("the '(' of a list does not count.", TextsBoundariesTest::code7List);
    }

    // ---- tokens

    private static void words() {
        SwapChoices x = of("choose 1;thing a 1;thing ab 1;thing b 1;thing nota 1;thing ora 1;");
        due("ab is not a b", heldFor(x, "ab"), "1");
        due("nota is not not a", heldFor(x, "nota"), "3");
        due("not a", heldFor(x, "not a"), "1234");
        due("a or a", heldFor(x, "a or a"), "0");
        due("a ora", add(x, "a ora"), -11);
        due("its place", x.errorPosition(), 2);
        due("a word up to a digit", heldFor(x, "most1(a ab)"), "01234");
        due("a word up to a sign", heldFor(x, "any(ab)or(nota)"), "13");
        due("a word up to the end", heldFor(x, "b"), "2");
        // A word of any length is one word, whatever its end or its beginning would be alone.
        for (int more = 0; more < 40; more++) due("a word of " + (more + 7), many(x, "a".repeat(6 + more) + "b", true), -1000004);
        dueTestError("anda", 4, 0);
        dueTestError("a andb", 1, 2);
        dueTestError("alla", 4, 0);
        dueTestError("weights > 1", 4, 0);
    }

    private static void digits() {
        String zeros = "0".repeat(60);
        SwapChoices x = of("choose " + zeros + "1 mode " + zeros + "2;thing a " + zeros + ";thing b " + zeros + "99;");
        due("K", x.size(1), 1);
        due("MODE", x.size(8), 2);
        due("a weight of many zeros", x.weight(0), 0);
        due("a weight behind many zeros", x.weight(1), 99);
        due("a number behind zeros", heldFor(x, "number < " + zeros + "9999"), "01");
        due("a limit behind zeros", heldFor(x, "most " + zeros + "10(a)"), "01");
        due("a limit of zeros", heldFor(x, "most 000(a)"), "1");
        dueTestError("number < " + zeros + "10000", 2, 9);
        dueTestError("most " + zeros + "11(a)", 2, 5);
        dueTestError("most 1 0(a)", 1, 7);
        dueTestError("weight < 1 0", 1, 11);
        dueTestError("weight < 1a", 1, 10);
        dueError("choose 1 0;thing a 1;", 1, 9);
    }

    private static void signs() {
        SwapChoices x = of("choose 1;thing a 1;thing b 2;rule((a)or(b));rule weight<2or weight>1and weight=2;");
        due("tokens of ((a)or(b))", x.rule(0, 3), 9);
        due("tokens of weight<2or ..", x.rule(1, 3), 11);
        due("without any blank", allowed(of("choose1;thing a1;thing b2;rule(a);")), "0");
        dueTestError("weight<=1", 1, 7);
        dueTestError("weight=>1", 1, 7);
        dueTestError("weight<>1", 1, 7);
        due("addRule of a;", add(new SwapChoices(), "a;"), -11);
        dueError(FOUR + "rule a;;", 1, FOUR.length() + 7);
        dueError("choose 1;;", 1, 9);
        for (String sign : new String[] {";", ")", "<", "=", ">"}) {
            due("many of " + sign, many(new SwapChoices(), sign, true), -1000001);
            due("many of a " + sign, many(new SwapChoices(), "a " + sign, true), -1000001);
        }
    }

    private static void blankBytes() {
        String text = "\n \nchoose \n 1\n;\n\n thing\na \n1 ;thing\n b\n2\n;rule\n \nb\n;\n \n";
        SwapChoices x = of(text);
        due("allowed", allowed(x), "1");
        due("tokens of b", x.rule(0, 3), 1);
        due("blanks alone", many(x, " \n \n ", true), -1000001);
        due("their end", x.errorPosition(), 5);
        due("two words by a 10", many(x, "not\na", true), 1);
        due("two words without any", many(x, "nota", true), -1000004);
        due("blanks before and behind", many(x, "\n\n a \n", false), 1);
    }

    /** A byte between a and or b: blanks part the two, letters make another word of them, all else is an error there. */
    private static void everyByte() {
        for (int b = 0; b < 256; b++) {
            char[] signs = {'a', (char) b, 'o', 'r', ' ', 'b'};
            boolean blank = b == 32 || b == 10;
            boolean letter = b >= 'a' && b <= 'z';
            SwapChoices x = new SwapChoices();
            due("many with the byte " + b, many(x, new String(signs), false), blank ? 5 : letter ? -1000004 : -1000001);
            due("errorPosition with the byte " + b, x.errorPosition(), blank ? -1 : letter ? 0 : 1);
        }
        dueError("choose 2;thing a 1;thing b 1;thing c 1;\0", 1, 39);
        dueError("choose 2;thing A 1;", 1, 15);
        dueError("choose -2;", 1, 7);
        dueTestError("weight < -1", 1, 9);
        dueTestError("a_b", 1, 1);
        dueTestError("a\tor b", 1, 1);
        dueTestError("a\r", 1, 1);
    }

    // ---- the grammar

    private static void clausesOrNone() {
        due("the shortest text", allowed(of("choose 1;thing a 0;thing b 0;")), "01");
        due("with MODE", of("choose 1 mode 1;thing a 0;thing b 0;").size(8), 1);
        due("with one clause", allowed(of("choose 1;thing a 0;thing b 0;strike a;")), "1");
        due("clauses in any order", allowed(of(FOUR + "strike a b;rule a;strike a d;rule c;")), "2");
        StringBuilder every = new StringBuilder("choose 1;" + things(10));
        for (int t = 0; t < 10; t++) every.append("strike ").append((char) ('a' + t)).append(';');
        due("more than ten strikes' worth of clauses", of(every + "rule a;").size(5), 10);
        dueError("choose 1 mode 1 mode 1;", 1, 16);
        dueError("mode 1;choose 1;", 1, 0);
    }

    private static void nameAlone() {
        SwapChoices x = of(text(1, 10));
        due("the first thing", heldFor(x, "a"), "0");
        due("the last thing", heldFor(x, "j"), "9");
        due("all but the last thing", of(text(9, 10) + "rule not j;").size(3), 1);
        due("the last thing in 9 of 10", of(text(9, 10) + "rule j;").size(3), 9);
    }

    private static void lists() {
        SwapChoices x = of(text(2, 4));
        due("all of one", heldFor(x, "all(a)"), "025");
        due("all of K", heldFor(x, "all(a b)"), "0");
        due("all of more than K", heldFor(x, "all(a b c)"), "");
        due("any of one", heldFor(x, "any(a)"), "025");
        due("any of all", heldFor(x, "any(a b c d)"), "012345");
        due("none of one", heldFor(x, "none(a)"), "134");
        due("none of two", heldFor(x, "none(a b)"), "3");
        due("none of three", heldFor(x, "none(a b c)"), "");
        dueTestError("all()", 1, 4);
        dueTestError("any ( )", 1, 6);
        dueTestError("none(", 1, 5);
    }

    private static int ways(int k, int n) {
        if (k < 0 || k > n) return 0;
        int ways = 1;
        for (int i = 1; i <= k; i++) ways = ways * (n - k + i) / i;
        return ways;
    }

    /** Of the choices of 5 out of 10, how many have so many of the first n things. */
    private static void limits() {
        for (int n = 1; n <= 10; n++) {
            SwapChoices x = of(text(5, 10));
            StringBuilder list = new StringBuilder();
            for (int t = 0; t < n; t++) list.append(' ').append((char) ('a' + t));
            int atMost = 0;
            for (int limit = 0; limit <= 10; limit++) {
                int atLeast = 252 - atMost;
                atMost += ways(limit, n) * ways(5 - limit, 10 - n);
                due("most " + limit + " of " + n, many(x, "most " + limit + " (" + list + ")", true), atMost);
                due("least " + limit + " of " + n, many(x, "least " + limit + " (" + list + ")", true), atLeast);
            }
        }
    }

    private static void toldTwice() {
        SwapChoices x = of(text(2, 4));
        due("most 1 of b b", heldFor(x, "most 1(b b)"), "012345");
        due("most 0 of b b", heldFor(x, "most 0(b b)"), "235");
        due("least 2 of b b", heldFor(x, "least 2(b b)"), "");
        due("least 2 of a b b a", heldFor(x, "least 2(a b b a)"), "0");
        due("all of a a", heldFor(x, "all(a a)"), "025");
        due("all of a b a b", heldFor(x, "all(a b a b)"), "0");
        due("any of c c", heldFor(x, "any(c c)"), "123");
        due("none of c c", heldFor(x, "none(c c)"), "045");
        add(x, "most 1(b b b)");
        due("its tokens are told thrice", x.rule(0, 3), 7);
        StringBuilder often = new StringBuilder("least 2 (");
        for (int i = 0; i < 90; i++) often.append("d ");
        due("told 90 times", many(x, often + "c)", false), 1);
    }

    private static void comparisons() {
        // Weights 3, 5, 4, 7, 6, 5.
        SwapChoices x = new SwapChoices();
        due("weight < the smallest", heldFor(x, "weight < 3"), "");
        due("weight < one more", heldFor(x, "weight < 4"), "0");
        due("weight = the smallest", heldFor(x, "weight = 3"), "0");
        due("weight > the smallest", heldFor(x, "weight > 3"), "12345");
        due("weight > the greatest", heldFor(x, "weight > 7"), "");
        due("weight > one less", heldFor(x, "weight > 6"), "3");
        due("weight < 0", heldFor(x, "weight < 0"), "");
        due("weight > 0", heldFor(x, "weight > 0"), "012345");
        due("number < 0", heldFor(x, "number < 0"), "");
        due("number = 0", heldFor(x, "number = 0"), "0");
        due("number > 0", heldFor(x, "number > 0"), "12345");
        due("number = 5", heldFor(x, "number = 5"), "5");
        due("number > 5", heldFor(x, "number > 5"), "");
        due("number < 5", heldFor(x, "number < 5"), "01234");
        due("number = 6", heldFor(x, "number = 6"), "");
        due("weight = 9999", heldFor(x, "weight = 9999"), "");
        due("weight < 9999", heldFor(x, "weight < 9999"), "012345");
        due("number > 9999", heldFor(x, "number > 9999"), "");
        x.setWeight(0, 0);
        x.setWeight(1, 0);
        due("weight = 0", heldFor(x, "weight = 0"), "0");
        due("weight > 0 then", heldFor(x, "weight > 0"), "12345");
        SwapChoices big = of(text(5, 10));
        due("number = 251", many(big, "number = 251", true), 1);
        due("number > 250", many(big, "number > 250", true), 1);
        due("number < 251", many(big, "number < 251", true), 251);
        for (int t = 0; t < 10; t++) big.setWeight(t, 99);
        due("weight = 495", many(big, "weight = 495", true), 252);
        due("weight < 495", many(big, "weight < 495", true), 0);
    }

    private static void strikes() {
        due("K is 1", allowed(of("choose 1;thing a 1;thing b 1;strike b;")), "0");
        SwapChoices nine = of("choose 9;" + things(10) + "strike j i h g f e d c a;");
        due("K is 9, told backwards", nine.choice(nine.numberOf(1023 - 2), 4), 1);
        due("struck out", nine.size(5), 1);
        due("the last choice", allowed(of(FOUR + "strike d a;")), "01234");
        due("all of them", of(FOUR + "strike a b;strike a c;strike a d;strike b c;strike b d;strike c d;").size(5), 6);
    }

    private static void names() {
        String[] near = {"choos", "mod", "modes", "thin", "things", "rules", "rul", "strik", "o", "orr", "an", "andy", "nots", "no",
            "al", "ally", "anys", "non", "nones", "mos", "mosts", "leas", "leasts", "weigh", "numbe", "z", "aaaaaa", "zzzzzz"};
        for (String name : near) {
            SwapChoices x = of("choose 1;thing q 1;thing " + name + " 1;rule " + name + ";");
            due("the thing " + name, x.size(0), 2);
            due("its rule", allowed(x), "1");
            due("its last letter", x.nameByte(1, name.length() - 1), (int) name.charAt(name.length() - 1));
        }
        SwapChoices alike = of("choose 1;thing a 1;thing aa 1;thing aaa 1;thing aaaaaa 1;thing aaaaab 1;");
        due("names that begin alike", heldFor(alike, "aaa or aaaaab"), "24");
        for (String word : QUOTED) dueError("choose 1;thing " + word + " 1;", 3, 15);
    }

    private static void rangeOfK() {
        due("K of 1", of(text(1, 10)).size(1), 1);
        due("K of 9", of(text(9, 10)).size(1), 9);
        dueError(text(0, 10), 2, 7);
        dueError(text(10, 10), 2, 7);
        dueError("choose 000;", 2, 7);
        dueError("choose 4294967297;", 2, 7);
        dueError("choose 18446744073709551617;", 2, 7);
    }

    private static void ranges() {
        for (String word : new String[] {"most", "least"}) {
            due(word + " 0", many(new SwapChoices(), word + " 0 (a)", false), word.equals("most") ? 3 : 6);
            due(word + " 10", many(new SwapChoices(), word + " 10 (a)", false), word.equals("most") ? 6 : 0);
            dueTestError(word + " 11 (a)", 2, word.length() + 1);
            dueTestError(word + " 4294967296 (a)", 2, word.length() + 1);
            dueTestError(word + " (a)", 1, word.length() + 1);
        }
        for (String word : new String[] {"weight", "number"}) {
            due(word + " < 9999", many(new SwapChoices(), word + " < 9999", false), 6);
            due(word + " > 0", many(new SwapChoices(), word + " > 0", false), word.equals("weight") ? 6 : 5);
            for (String sign : new String[] {"<", "=", ">"}) {
                dueTestError(word + sign + "10000", 2, 7);
                dueTestError(word + sign + "4294967296", 2, 7);
                dueTestError(word + sign + "99999", 2, 7);
            }
        }
    }

    private static void modeNotTold() {
        SwapChoices x = of("choose 1 mode 2;thing a 1;thing b 1;");
        due("MODE that is told", x.size(8), 2);
        load(x, "choose 1;thing a 1;thing b 1;");
        due("MODE that is not told behind one that was", x.size(8), 0);
        x.setMode(1);
        load(x, "choose 1;thing a 1;thing b 1;");
        due("MODE that is not told behind setMode", x.size(8), 0);
        load(x, "choose 1 mode 2;thing");
        load(x, "choose 1;thing a 1;thing b 1;");
        due("MODE that is not told behind an error", x.size(8), 0);
        load(x, "choose 1 mode 0;thing a 1;thing b 1;");
        due("MODE that is told as 0", x.size(8), 0);
    }

    // ---- the error codes

    private static void firstError() {
        dueError("choose 0 mode 3;thing rule 100;", 2, 7);
        dueError("choose 1 mode 3;thing rule 100;", 2, 14);
        dueError("choose 1 mode 2;thing rule 100;", 3, 22);
        dueError("choose 1 mode 2;thing a 100;#", 2, 24);
        dueError("choose 1 mode 2;thing a 1;#", 1, 26);
        dueError(FOUR + "rule e;rule a b;", 4, FOUR.length() + 5);
        dueError(FOUR + "rule a b;rule e;", 1, FOUR.length() + 7);
        dueError(FOUR + "   strike  a  eeeeeeeee;strike", 4, FOUR.length() + 14);
        dueTestError("  \n 12345", 1, 4);
        dueTestError("weight < \n 12345 #", 2, 11);
        dueTestError("a or   bbbb and #", 4, 7);
        dueTestError("any(a   eeee 1", 4, 8);
    }

    private static void smallestCode() {
        // 1 and 6: the first token behind too few things that is not allowed there.
        dueError("choose 2;thing a 1;thing b 1;a", 1, 29);
        dueError("choose 2;thing a 1;thing b 1;(", 1, 29);
        dueError("choose 2;thing a 1;thing b 1;7", 1, 29);
        dueError("choose 2;thing a 1;thing b 1;or", 1, 29);
        dueError("choose 2;thing a 1;thing b 1;\0", 1, 29);
        // 1 and 5: an 11th thing behind a clause.
        String ten = text(9, 10);
        dueError(ten + "rule a;thing k 1;", 1, ten.length() + 7);
        // 4 and 5: the (K + 1)th name of a strike that is no thing, or told already.
        dueError(FOUR + "strike a b e;", 4, FOUR.length() + 11);
        dueError(FOUR + "strike a b b;", 4, FOUR.length() + 11);
        // 1 and 5: something else in its place.
        dueError(FOUR + "strike a b (", 1, FOUR.length() + 11);
        dueError(FOUR + "strike a b 5;", 1, FOUR.length() + 11);
        // 1 and 6: the ; of a strike without any name.
        dueError(FOUR + "strike;", 1, FOUR.length() + 6);
        // 3 twice over: a long name again.
        dueError("choose 1;thing aaaaaaa 1;thing aaaaaaa 1;", 3, 15);
    }

    private static void code1() {
        dueError("1", 1, 0);
        dueError(";", 1, 0);
        dueError("choos 1;", 1, 0);
        dueError("choose;", 1, 6);
        dueError("choose one;", 1, 7);
        dueError("choose 1 modes 1;", 1, 9);
        dueError("choose 1 mode mode;", 1, 14);
        dueError("choose 1 thing a 1;", 1, 9);
        dueError("choose 1;strike a;", 1, 9);
        dueError("choose 1;thing;", 1, 14);
        dueError("choose 1;thing (;", 1, 15);
        dueError("choose 1;thing a;", 1, 16);
        dueError("choose 1;thing a 1 1;", 1, 19);
        dueError("choose 1;thing a 1;a 1;", 1, 19);
        dueError(FOUR + "choose 2;", 1, FOUR.length());
        dueError(FOUR + "rule;", 1, FOUR.length() + 4);
        dueError(FOUR + "rule a;a;", 1, FOUR.length() + 7);
        dueError(FOUR + "strike (a b);", 1, FOUR.length() + 7);
        for (String word : QUOTED) {
            boolean begins = Arrays.asList("not", "all", "any", "none", "most", "least", "weight", "number").contains(word);
            if (!begins) dueTestError(word, 1, 0);
            if (!word.equals("or") && !word.equals("and")) dueTestError("a " + word, 1, 2);
            dueTestError("weight " + word + " 1", 1, 7);
            dueTestError("least " + word + " (a)", 1, 6);
            dueTestError("all " + word, 1, 4);
        }
        dueTestError("a or or b", 1, 5);
        dueTestError("a and or b", 1, 6);
        dueTestError(")", 1, 0);
        dueTestError("a)", 1, 1);
        dueTestError("(a))", 1, 3);
        dueTestError("any a)", 1, 4);
        dueTestError("any((a))", 1, 4);
        dueTestError("any(a or b)", 1, 6);
        dueTestError("weight = b", 1, 9);
        dueTestError("= 1", 1, 0);
    }

    /** Each text that ends behind one of the tokens of a whole one; blanks behind it make it longer. */
    private static void endsTooEarly() {
        String whole = "choose 2 mode 1 ; thing a 1 ; thing b 2 ; thing c 3 ; rule not ( a and b ) or most 1 ( a c ) and "
            + "weight < 9 and number > 0 ; strike b c ;";
        String[] tokens = whole.split(" ");
        StringBuilder text = new StringBuilder();
        int things = 0;
        for (int i = 0; i < tokens.length; i++) {
            text.append(i == 0 ? "" : " ").append(tokens[i]);
            boolean ends = tokens[i].equals(";");
            if (ends && i > 4) things++;
            boolean good = ends && things > 2;
            if (good) due("load of " + text, load(new SwapChoices(), text.toString()) >= 0, true);
            else dueError(text.toString(), ends && things > 0 ? 6 : 1, text.length());
            if (!good) dueError(text + " \n ", ends && things > 0 ? 6 : 1, text.length() + 3);
        }
        dueError("", 1, 0);
        String test = "not ( a and b ) or most 1 ( a c ) and weight < 9";
        String[] parts = test.split(" ");
        String open = "";
        for (int i = 0; i + 1 < parts.length; i++) {
            open += (i == 0 ? "" : " ") + parts[i];
            boolean good = parts[i].equals(")");
            SwapChoices x = new SwapChoices();
            due("addRule of " + open, add(x, open) < 0, !good);
            due("errorPosition of " + open, x.errorPosition(), good ? -1 : open.length());
        }
        SwapChoices full = new SwapChoices();
        due("addRule of 800 bytes", add(full, "a or" + blanks(796)), -11);
        due("the end of 800 bytes", full.errorPosition(), 800);
        due("load of 800 bytes", load(full, blanks(800)), -11);
        due("the end of 800 bytes", full.errorPosition(), 800);
        due("many of 200 bytes", many(full, "a and" + blanks(195), true), -1000001);
        due("the end of 200 bytes", full.errorPosition(), 200);
    }

    private static void code2() {
        dueError("choose 0;", 2, 7);
        dueError("choose 10;", 2, 7);
        dueError("choose 1 mode 3;", 2, 14);
        dueError("choose 1 mode 00003;", 2, 14);
        dueError("choose 1;thing a 100;", 2, 17);
        dueError("choose 1;thing a 000100;", 2, 17);
        dueError("choose 1;thing a 4294967296;", 2, 17);
        dueError("choose 1;thing a 18446744073709551616;", 2, 17);
        dueTestError("most 11 (a)", 2, 5);
        dueTestError("least 99999999999 (a)", 2, 6);
        dueTestError("weight = 10000", 2, 9);
        dueTestError("number = 10000", 2, 9);
        String long800 = "number = " + "9".repeat(791);
        SwapChoices x = new SwapChoices();
        due("a number of 791 digits", add(x, long800), -12);
        due("its place", x.errorPosition(), 9);
    }

    private static void code3() {
        for (String word : QUOTED) dueError("choose 1;thing " + word + " 1;", 3, 15);
        due("6 letters", of("choose 1;thing abcdef 1;thing b 1;").nameByte(0, 5), (int) 'f');
        dueError("choose 1;thing abcdefg 1;", 3, 15);
        dueError("choose 1;thing " + "a".repeat(700) + " 1;", 3, 15);
        dueError("choose 1;thing choosee 1;", 3, 15);
        for (int letters = 7; letters < 40; letters++) dueError("choose 1;thing " + "z".repeat(letters) + " 1;thing y 1;", 3, 15);
        dueError("choose 1;thing a 1;thing a 1;", 3, 25);
        String ten = text(9, 9);
        dueError(ten + "thing a 1;", 3, ten.length() + 6);
        dueError(ten + "thing i 1;", 3, ten.length() + 6);
        dueError("choose 1;thing abcdef 1;thing abcdef 1;", 3, 30);
        due("a part of an earlier one", of("choose 1;thing abcdef 1;thing abcde 1;").size(0), 2);
        // A text that failed leaves no names behind.
        SwapChoices x = new SwapChoices();
        load(x, "choose 1;thing q 1;thing r");
        due("the same names again", load(x, "choose 1;thing q 1;thing r 1;"), 2);
    }

    private static void code4() {
        dueTestError("e", 4, 0);
        dueTestError("aa", 4, 0);
        dueTestError("abcdefghijkl", 4, 0);
        dueTestError("not e", 4, 4);
        dueTestError("(e", 4, 1);
        dueTestError("all(e)", 4, 4);
        dueTestError("any(a b c d e)", 4, 12);
        dueTestError("most 1 (abcdefg)", 4, 8);
        for (String word : QUOTED) {
            // In a list of a factor a quoted word is not allowed, in a strike it is a word that is no thing.
            dueTestError("any(" + word + ")", 1, 4);
            dueTestError("any(a " + word + ")", 1, 6);
            dueError(FOUR + "strike " + word + ";", 4, FOUR.length() + 7);
            dueError(FOUR + "strike a " + word + ";", 4, FOUR.length() + 9);
            dueError(FOUR + "strike a b " + word + ";", 4, FOUR.length() + 11);
        }
        dueError(FOUR + "strike e a;", 4, FOUR.length() + 7);
        dueError(FOUR + "strike a e;", 4, FOUR.length() + 9);
        dueError(FOUR + "strike abcdefgh;", 4, FOUR.length() + 7);
        // The names are those of the text itself, and those of before stay after an error.
        SwapChoices x = of("choose 1;thing x 1;thing y 1;");
        due("a name of before", load(x, "choose 1;thing a 1;thing b 1;rule x;"), -14);
        due("addRule of a name of the text with the error", add(x, "a"), -14);
        due("many of a name of the text with the error", many(x, "b", true), -1000004);
        due("addRule of a name that stays", add(x, "y"), 0);
        due("allowed", allowed(x), "1");
        due("many of a name that stays", many(x, "x", false), 1);
    }

    private static void code4Twice() {
        int at = FOUR.length();
        dueError(FOUR + "strike a a;", 4, at + 9);
        dueError(FOUR + "strike d d", 4, at + 9);
        dueError(FOUR + "strike a b a;", 4, at + 11);
        dueError("choose 1;thing a 1;thing b 1;strike a a;", 4, 38);
        String nine = text(9, 10);
        dueError(nine + "strike a b c d e f g h a;", 4, nine.length() + 23);
        due("once in each of two", of(FOUR + "strike a b;strike a c;").size(5), 2);
        due("twice in a list of a rule", of(FOUR + "rule any(a a);").size(3), 3);
    }

    private static void code5Thing() {
        String ten = text(9, 10);
        due("ten things", of(ten).size(0), 10);
        dueError(ten + "thing k 1;", 5, ten.length());
        dueError(ten + "thing", 5, ten.length());
        dueError(ten + "  thing a 1;", 5, ten.length() + 2);
        dueError(ten + "things", 1, ten.length());
    }

    private static void code5Rule() {
        String ten = "choose 1;thing a 1;thing b 1;" + "rule a;".repeat(10);
        due("ten rules", of(ten).size(6), 10);
        dueError(ten + "rule a;", 5, ten.length());
        dueError(ten + "rule", 5, ten.length());
        dueError(ten + "strike a;rule #", 5, ten.length() + 9);
        due("a strike behind ten rules", of(ten + "strike b;").size(5), 1);
    }

    private static void code5Strike() {
        dueError("choose 1;thing a 1;thing b 1;strike a b;", 5, 38);
        dueError(FOUR + "strike a b c", 5, FOUR.length() + 11);
        dueError(FOUR + "strike a b;strike b c d;", 5, FOUR.length() + 22);
        String nine = text(9, 10);
        dueError(nine + "strike a b c d e f g h i j;", 5, nine.length() + 25);
        due("K names", of(nine + "strike a b c d e f g h i;").size(5), 1);
    }

    private static void code6Things() {
        for (int k = 1; k <= 9; k++) {
            String few = text(k, k);
            dueError(few, 6, few.length());
            dueError(few + " \n", 6, few.length() + 2);
            dueError(few + "rule a;", 6, few.length());
            dueError(few + " strike a;", 6, few.length() + 1);
            due("one more than " + k, of(text(k, k + 1)).size(0), k + 1);
        }
        dueError(text(9, 1), 6, text(9, 1).length());
    }

    private static void code6Strike() {
        dueError(FOUR + "strike a;", 6, FOUR.length() + 8);
        dueError(FOUR + "strike a  ;", 6, FOUR.length() + 10);
        String nine = text(9, 10);
        dueError(nine + "strike a;", 6, nine.length() + 8);
        dueError(nine + "strike a b c d e f g h;", 6, nine.length() + 22);
        dueError(FOUR + "strike a rule", 4, FOUR.length() + 9);
    }

    private static void code6Already() {
        dueError(FOUR + "strike a b;strike a b;", 6, FOUR.length() + 21);
        dueError(FOUR + "strike a b;strike b a;", 6, FOUR.length() + 21);
        dueError(FOUR + "strike a b;rule a;strike c d;strike d c ;", 6, FOUR.length() + 40);
        dueError(FOUR + "strike a b;strike b a", 1, FOUR.length() + 21);
        dueError("choose 1;thing a 1;thing b 1;strike a;strike b;strike b;", 6, 55);
        // What a text struck out before counts no more.
        SwapChoices x = of(FOUR + "strike a b;");
        due("the same strike in the next text", load(x, FOUR + "strike a b;"), 5);
        due("the same strike behind an error", load(x, FOUR + "strike a b;#"), -11);
        due("the same strike behind that", load(x, FOUR + "strike a b;"), 5);
    }

    private static void code7() {
        SwapChoices x = new SwapChoices();
        due("six (", heldFor(x, "((((((a))))))"), "025");
        due("six not", heldFor(x, "not not not not not not a"), "025");
        due("three of each", heldFor(x, "not(not(not(a)))"), "134");
        dueTestError("(((((((a)))))))", 7, 6);
        dueTestError("not not not not not not not a", 7, 24);
        dueTestError("not(not(not(not a)))", 7, 12);
        dueTestError("(((((( not", 7, 7);
        dueTestError("not not not not not not (a)", 7, 24);
        dueTestError("a or b and ((((((c or (a", 7, 22);
        dueTestError("((((((a and b or not", 7, 17);
        dueTestError(NINE_NOT, 7, 24);
        dueTestError(EIGHT_OPEN, 7, 6);
        due("an error before the seventh one", add(x, "((((((e and (a"), -14);
        dueTestError("((((((a e(", 1, 8);
    }

    private static void code7Not() {
        SwapChoices x = new SwapChoices();
        String six = "not not not not not not ";
        due("six not, and six again", heldFor(x, six + "a and " + six + "b"), "0");
        due("six not, or six again", heldFor(x, six + "a or " + six + "b"), "01245");
        due("a not before a ( that is closed", heldFor(x, "not(((((a))))) or not(((((b)))))"), "12345");
        due("closed within a (", heldFor(x, "(not not not not not a and not not not not not b)"), "3");
        dueTestError("(not not not not not a and not not not not not not b)", 7, 47);
        dueTestError("not(not not not not a and not not not not not b)", 7, 42);
        due("five within one, behind a list", heldFor(x, "not(any(a b) and not not not not all(a b))"), "12345");
        due("a not ends at the end of its name", heldFor(x, "not a and b"), "14");
        due("a not ends at the end of its (", heldFor(x, "not (a or b) or a"), "0235");
    }

    private static void code7List() {
        SwapChoices x = new SwapChoices();
        due("a list in six (", heldFor(x, "((((((any(a b)))))))"), "01245");
        due("a list behind six not", heldFor(x, "not not not not not not all(a b)"), "0");
        due("most and least in six (", heldFor(x, "((((((most 0(a b)))))))or((((((least 2(a b)))))))"), "03");
        due("none in six (", heldFor(x, "((((((none(a)))))))"), "134");
        dueTestError("((((((any(a))))))", 1, 17);
        dueTestError("((((((any((", 1, 10);
    }
}
