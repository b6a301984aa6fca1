import java.io.PrintWriter;
import java.io.StringWriter;
import java.net.URL;
import java.net.URLClassLoader;
import java.nio.file.Files;
import java.nio.file.Path;
import java.util.ArrayList;
import java.util.List;
import java.util.regex.Matcher;
import java.util.regex.Pattern;
import javax.tools.JavaCompiler;
import javax.tools.ToolProvider;

/** Compiles and runs the examples of README.md, and checks the number behind each line that tells one. */
public final class ReadmeTest {
    private static final Pattern TOLD = Pattern.compile("int (\\w+) = .*;\\s*// (-?\\d+).*");

    public static void main(String[] args) throws Exception {
        String page = Files.readString(Path.of("README.md"));
        Path room = Files.createTempDirectory("readme");
        Path file = room.resolve("Shown.java");
        try {
            Files.writeString(file, program(page));
            StringWriter told = new StringWriter();
            JavaCompiler compiler = ToolProvider.getSystemJavaCompiler();
            boolean good = compiler.getTask(new PrintWriter(told), null, null,
                List.of("-proc:none", "-cp", System.getProperty("java.class.path"), "-d", room.toString()), null,
                compiler.getStandardFileManager(null, null, null).getJavaFileObjects(file)).call();
            if (!good) end("the examples do not compile: " + told);
            run(room);
        } finally {
            for (String name : new String[] {"Shown.java", "Shown.class"}) Files.deleteIfExists(room.resolve(name));
            Files.deleteIfExists(room);
        }
    }

    private static void end(String fault) {
        throw new IllegalStateException(fault);
    }

    /** A class that answers with the lines that differ: the helper as its method, all other lines in one body. */
    private static String program(String page) {
        List<String> body = new ArrayList<>();
        StringBuilder helpers = new StringBuilder();
        int checks = 0;
        Matcher blocks = Pattern.compile("(?s)```java\n(.*?)```").matcher(page);
        while (blocks.find()) {
            if (blocks.group(1).startsWith("static ")) {
                helpers.append(blocks.group(1));
                continue;
            }
            for (String line : blocks.group(1).split("\n")) {
                body.add(line);
                Matcher m = TOLD.matcher(line);
                if (m.matches()) {
                    checks++;
                    body.add("if (" + m.group(1) + " != " + m.group(2) + ") wrong += \"README.md tells " + m.group(1)
                        + " = " + m.group(2) + ", but it is \" + " + m.group(1) + " + \"; \";");
                }
            }
        }
        if (checks < 15) end("README.md tells " + checks + " answers alone");
        return "public class Shown {\npublic static String wrong() {\nString wrong = \"\";\n" + String.join("\n", body)
            + "\nreturn wrong;\n}\n" + helpers + "}\n";
    }

    private static void run(Path room) throws Exception {
        try (URLClassLoader loader = new URLClassLoader(new URL[] {room.toUri().toURL()})) {
            String wrong = (String) loader.loadClass("Shown").getMethod("wrong").invoke(null);
            if (!wrong.isEmpty()) end(wrong);
        }
        System.out.println("the examples of README.md answer as it says");
    }
}
