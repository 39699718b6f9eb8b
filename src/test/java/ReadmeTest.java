import java.lang.reflect.Method;
import java.lang.reflect.Modifier;
import java.net.URL;
import java.net.URLClassLoader;
import java.nio.file.Files;
import java.nio.file.Path;
import java.util.ArrayList;
import java.util.List;
import java.util.regex.Matcher;
import java.util.regex.Pattern;

/**
 * Runs what README.md shows: its java blocks, one behind the other, as they stand there; each call is held against the answer
 * that the comment behind it names (up to a colon), so that the page can't tell anything but what the class does.
 */
public final class ReadmeTest {
    private static final Pattern SHOWN = Pattern.compile("^(\\S.*);\\s*// (.+)$");
    private static final String MADE = "ReadmeShows";

    private final StringBuilder methods = new StringBuilder();
    private final StringBuilder calls = new StringBuilder();
    private final List<String> shown = new ArrayList<>();

    public static void main(String[] args) throws Exception {
        ReadmeTest test = new ReadmeTest();
        test.read(Files.readAllLines(Path.of("README.md")));
        test.hasEveryMethod();
        House.due("whether README.md's java compiles and ends well", test.runs(), true);
        House.close("ReadmeTest");
    }

    /** What the made class tells: a call as README.md has it, its answer, and the one that is named. */
    public static void due(String call, long got, long want) {
        House.due("README.md: " + call, got, want);
    }

    public static void due(String call, boolean got, boolean want) {
        House.due("README.md: " + call, got, want);
    }

    public static void due(String call, double got, double want) {
        due(call + " (bits)", Double.doubleToRawLongBits(got), Double.doubleToRawLongBits(want));
    }

    private void read(List<String> lines) {
        List<String> block = null;
        for (String line : lines) {
            if (line.equals("```java")) {
                block = new ArrayList<>();
            } else if (line.startsWith("```")) {
                take(block == null ? List.of() : block);
                block = null;
            } else if (block != null) {
                block.add(line);
            }
        }
    }

    /** A block is a method, or calls. */
    private void take(List<String> block) {
        boolean isMethod = !block.isEmpty() && block.get(0).startsWith("static ");
        for (String line : block) {
            if (isMethod) {
                methods.append(line).append('\n');
            } else {
                calls.append(isCall(line) ? held(line) : line).append('\n');
            }
        }
    }

    private static boolean isCall(String line) {
        return line.startsWith("house.") || line.startsWith("take(") || line.startsWith("Double.");
    }

    private String held(String line) {
        Matcher found = SHOWN.matcher(line);
        if (!found.matches()) {
            House.due("whether README.md names an answer behind " + line, false, true);
            return line;
        }
        String call = found.group(1);
        String answer = found.group(2).split(": ")[0];
        shown.add(call);
        return "ReadmeTest.due(\"" + call.replace("\"", "\\\"") + "\", " + call + ", " + answer + ");";
    }

    private void hasEveryMethod() {
        String all = String.join("\n", shown);
        for (Method method : FourTongues.class.getDeclaredMethods()) {
            if (Modifier.isPublic(method.getModifiers())) {
                House.due("whether README.md shows " + method.getName(), all.contains("house." + method.getName() + "("), true);
            }
        }
    }

    private boolean runs() throws Exception {
        Path room = Files.createTempDirectory("readme");
        Path source = room.resolve(MADE + ".java");
        Path made = room.resolve(MADE + ".class");
        try {
            Files.writeString(source, "public final class " + MADE + " {\n" + methods + "public static void run() {\n" + calls + "}\n}\n");
            String path = System.getProperty("java.class.path");
            ProcessBuilder compiler = new ProcessBuilder("javac", "-cp", path, "-d", room.toString(), source.toString());
            if (compiler.inheritIO().start().waitFor() != 0) {
                return false;
            }
            try (URLClassLoader loader = new URLClassLoader(new URL[] {room.toUri().toURL()})) {
                loader.loadClass(MADE).getMethod("run").invoke(null);
            }
            return true;
        } finally {
            Files.deleteIfExists(made);
            Files.deleteIfExists(source);
            Files.deleteIfExists(room);
        }
    }
}
