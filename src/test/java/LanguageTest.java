import java.lang.reflect.Field;
import java.lang.reflect.Method;
import java.lang.reflect.Modifier;
import java.nio.file.Files;
import java.nio.file.Path;
import java.util.Arrays;
import java.util.Set;
import java.util.TreeSet;
import java.util.regex.Matcher;
import java.util.regex.Pattern;

/** Checks what can be seen by reflection and by the source's words of the rules of LANGUAGE.md. */
public final class LanguageTest {
    private static final String[] FACE = {"feed(int,int,int,int,int)int", "load(int)int I", "errorPosition()int",
        "size(int)int I", "weight(int)int N", "nameByte(int,int)int N", "choice(int,int)int N I", "numberOf(int)int",
        "distance(int,int)int N", "swapped(int,int,int)int N", "nearest(int,boolean)int N", "with(int)int N",
        "heaviest()int", "holds(int,int)boolean N", "rule(int,int)int N I", "why(int)int N", "against(int)int N",
        "next()int", "trail(int)int", "swapsToEnd(int)int I", "bestMode()int", "ahead(int)int I", "far(int,int)int N",
        "toward(int,int)int N", "part(int,int)int N I", "allowedIf(int)int N", "partsIf(int)int N", "strictest()int",
        "bridge()int", "meanWeight()double", "visitedShare()float", "step()int", "steps(int)int I", "swap(int,int)int N",
        "back()int", "reset()int", "setMode(int)int I", "setWeight(int,int)int N I", "addRule(int)int I",
        "dropRule(int)int N", "switchRule(int)int N", "strike(int,boolean)boolean N", "many(int,boolean)int I",
        "format(int)int N", "formattedByte(int)int", "undoCount()int", "undo()int", "saveSnapshot()void",
        "restoreSnapshot()boolean"};
    private static final String[] RULED_OUT = {"->", "::", "catch", "finally", "try ", "synchronized", "assert",
        "while (true)", "for (;;)", "static {", "import java.util.*", "Exact(", "hashCode", "toString", "new Object",
        "Random", "System.nanoTime", "System.currentTime", "Thread", "package "};

    private static int wrong = 0;
    private static int checked = 0;

    public static void main(String[] args) throws Exception {
        face();
        classes();
        source(Files.readString(Path.of("src/main/java/SwapChoices.java")));
        System.out.println(wrong == 0 ? checked + " checks of the language are as due" : wrong + " are not");
        if (wrong != 0) System.exit(1);
    }

    private static void check(boolean good, String what) {
        checked++;
        if (!good) {
            wrong++;
            System.out.println("rule broken: " + what);
        }
    }

    private static void face() {
        Class<?> type = SwapChoices.class;
        Set<String> seen = new TreeSet<>();
        Set<String> hidden = new TreeSet<>();
        for (Method m : type.getDeclaredMethods()) {
            if (Modifier.isPublic(m.getModifiers())) seen.add(told(m));
            else check(Modifier.isPrivate(m.getModifiers()), "1: " + m.getName() + " is neither public nor private");
            if (!Modifier.isPublic(m.getModifiers())) hidden.add(m.getName());
        }
        check(seen.equals(new TreeSet<>(Arrays.asList(FACE))), "1: the face is " + seen);
        for (Method m : type.getDeclaredMethods()) {
            boolean both = Modifier.isPublic(m.getModifiers()) && hidden.contains(m.getName());
            check(!both, "1: a private " + m.getName());
        }
        for (Field f : type.getDeclaredFields()) {
            boolean open = f.getName().equals("NONE") || f.getName().equals("HIDDEN");
            check(open ? Modifier.isPublic(f.getModifiers()) : Modifier.isPrivate(f.getModifiers()), "1: " + f.getName());
        }
        check(type.getConstructors().length == 1 && type.getDeclaredConstructors().length == 1, "1: constructors");
        check(Modifier.isFinal(type.getModifiers()), "1: final");
    }

    private static String told(Method m) {
        StringBuilder text = new StringBuilder(m.getName()).append('(');
        for (Class<?> c : m.getParameterTypes()) text.append(text.charAt(text.length() - 1) == '(' ? "" : ",").append(c);
        text.append(')').append(m.getReturnType());
        for (Class<?> c : m.getExceptionTypes()) text.append(' ').append(c.getSimpleName().charAt(0));
        return text.toString();
    }

    private static void classes() {
        Class<?>[] inside = SwapChoices.class.getDeclaredClasses();
        check(inside.length <= 12, "11: classes");
        one(SwapChoices.class);
        for (Class<?> type : inside) one(type);
    }

    private static void one(Class<?> type) {
        int fields = 0;
        for (Field f : type.getDeclaredFields()) {
            boolean fixed = Modifier.isStatic(f.getModifiers());
            if (!fixed) fields++;
            check(!fixed || Modifier.isFinal(f.getModifiers()), "5: " + type.getSimpleName() + "." + f.getName());
        }
        check(fields <= 20, "11: fields of " + type.getSimpleName());
        for (Method m : type.getDeclaredMethods()) {
            check(m.getParameterCount() <= 7, "11: parameters of " + m.getName());
        }
    }

    private static void source(String text) {
        String code = text.replaceAll("(?s)/\\*.*?\\*/", "").replaceAll("//[^\n]*", "");
        for (String word : RULED_OUT) check(!code.contains(word), "the source has " + word);
        Matcher imports = Pattern.compile("import ([^;]*);").matcher(code);
        while (imports.find()) {
            check(imports.group(1).matches("java\\.util\\.(Arrays|NoSuchElementException)"), "4: " + imports.group());
        }
        Matcher thrown = Pattern.compile("throw [^;]*;").matcher(code);
        while (thrown.find()) {
            check(thrown.group().matches("throw new (IllegalArgument|NoSuchElement)Exception\\(\\);"), "6: " + thrown.group());
        }
        check(!Pattern.compile("\"\\s*\\+|\\+\\s*\"").matcher(code).find(), "10: texts joined by +");
        for (int i = 0; i < text.length(); i++) {
            if (text.charAt(i) > 126) check(false, "4: a sign above 126");
        }
        lengths(code.split("\n", -1));
    }

    /** Methods of the class itself begin at four blanks, those of the classes inside at eight. */
    private static void lengths(String[] lines) {
        for (String blanks : new String[] {"    ", "        "}) {
            int begin = -1;
            for (int i = 0; i < lines.length; i++) {
                boolean opens = lines[i].startsWith(blanks) && !lines[i].startsWith(blanks + " ") && lines[i].endsWith(") {");
                if (opens) begin = i;
                if (begin >= 0 && lines[i].equals(blanks + "}")) {
                    check(i - begin < 60, "11: a method of " + (i - begin + 1) + " lines at line " + (begin + 1));
                    begin = -1;
                }
            }
        }
    }
}
