import java.io.ByteArrayOutputStream;
import java.io.IOException;
import java.io.PrintStream;
import java.net.URL;
import java.net.URLClassLoader;
import java.nio.file.Files;
import java.nio.file.Path;
import java.util.ArrayList;
import java.util.HashMap;
import java.util.List;
import java.util.Map;
import java.util.regex.Matcher;
import java.util.regex.Pattern;
import java.util.stream.Stream;
import javax.tools.ToolProvider;

/** README.md tells each call as the document has it, and its example prints what stands behind its lines. */
public final class ReadmeTest {
    private static final String ENTRY = "- **`";
    private static final Check check = new Check();
    private static final String readme = Project.read(Project.README);

    /** What README.md tells of each call, its lines without the marks, by the call's types and names. */
    private static Map<String, List<String>> entries() {
        Map<String, List<String>> entries = new HashMap<>();
        List<String> entry = null;
        for (String line : readme.split("\\R")) {
            if (line.startsWith(ENTRY)) {
                String call = line.substring(ENTRY.length(), line.indexOf("`**"));
                check.no("README.md tells " + call + " twice", entries.containsKey(call));
                entry = new ArrayList<>(List.of(Document.plain(line.substring(line.indexOf("`**") + 3))));
                entries.put(call, entry);
            } else if (entry != null && line.startsWith("  - ")) {
                entry.add(Document.plain(line.substring(4)));
            } else {
                entry = null;
            }
        }
        return entries;
    }

    private static void calls() {
        Document document = new Document();
        Map<String, List<String>> entries = entries();
        check.same("calls that README.md tells", entries.size(), Document.PROMISES);
        for (int promise = 1; promise <= Document.PROMISES; promise++) {
            List<String> due = new ArrayList<>();
            for (String line : document.linesOf("Promise " + promise)) {
                due.add(line.startsWith("- ") ? line.substring(2) : line);
            }
            int colon = due.get(0).indexOf(": ");
            String call = due.get(0).substring(0, colon).replaceAll(" throws .*", "");
            due.set(0, due.get(0).substring(colon + 2));
            check.sameText("README.md, promise " + promise,
                String.join("\n", entries.getOrDefault(call, List.of("nothing"))), String.join("\n", due));
        }
    }

    private static String blockOfJava() {
        Matcher m = Pattern.compile("(?s)```java\n(.*?)```").matcher(readme);
        return m.find() ? m.group(1) : "";
    }

    private static void example() throws Exception {
        String program = blockOfJava();
        List<String> due = new ArrayList<>();
        for (String line : program.split("\n")) {
            if (line.contains("System.out.println")) {
                due.add(line.contains("// ") ? line.substring(line.indexOf("// ") + 3) : "a line without its answer");
            }
        }
        Path folder = Files.createTempDirectory("readme");
        try {
            Path file = Files.writeString(folder.resolve("Evening.java"), program);
            int wrong = ToolProvider.getSystemJavaCompiler().run(null, null, null,
                "-d", folder.toString(), Project.SOURCE.toString(), file.toString());
            check.same("compiling the example", wrong, 0);
            if (wrong == 0) {
                check.sameText("the example", printed(folder), String.join("\n", due));
            }
        } finally {
            remove(folder);
        }
        check.yes("the example prints answers", due.size() >= 10);
    }

    private static String printed(Path folder) throws Exception {
        PrintStream before = System.out;
        ByteArrayOutputStream bytes = new ByteArrayOutputStream();
        // Without the class path of this test as its parent, so that the class is the one compiled with the example.
        try (URLClassLoader loader = new URLClassLoader(new URL[] {folder.toUri().toURL()}, null)) {
            System.setOut(new PrintStream(bytes, true));
            loader.loadClass("Evening").getMethod("main", String[].class).invoke(null, (Object) new String[0]);
        } finally {
            System.setOut(before);
        }
        return String.join("\n", bytes.toString().split("\\R"));
    }

    private static void remove(Path folder) throws IOException {
        try (Stream<Path> files = Files.list(folder)) {
            for (Path file : files.toList()) {
                Files.delete(file);
            }
        }
        Files.delete(folder);
    }

    /** The commands of README.md name files that are there. */
    private static void commands() {
        Matcher m = Pattern.compile("(?m)^    (?:javac|java|\\.ci).*$").matcher(readme);
        int commands = 0;
        while (m.find()) {
            commands++;
            for (String word : m.group().trim().split(" ")) {
                boolean isOfProject = word.startsWith("src/main/") || word.startsWith("../") || word.startsWith(".ci/");
                check.yes("README.md names " + word, !isOfProject || Files.exists(Path.of(word)));
            }
        }
        check.yes("README.md tells commands", commands > 0);
    }

    public static void main(String[] args) throws Exception {
        calls();
        example();
        commands();
        check.end();
    }
}
