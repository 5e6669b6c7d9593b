import java.io.IOException;
import java.lang.reflect.Method;
import java.lang.reflect.Modifier;
import java.net.URL;
import java.net.URLClassLoader;
import java.nio.file.Files;
import java.nio.file.Path;
import java.util.ArrayList;
import java.util.List;
import java.util.regex.Matcher;
import java.util.regex.Pattern;
import javax.tools.ToolProvider;

/** Tries what README.md shows: its Java is compiled and run, and each call must answer as the remark behind it says. */
public final class ReadmeAnswers extends Checks {
    private static final Path README = Path.of("README.md");
    private static final Pattern REMARK = Pattern.compile(
            "(.*?)\\s*// (?:throws (\\w+)|(-?\\d+|Long\\.MIN_VALUE)).*", Pattern.DOTALL);

    private static final List<String> calls = new ArrayList<>();
    private static final List<Long> wanted = new ArrayList<>();
    private static final StringBuilder members = new StringBuilder();
    private static final StringBuilder body = new StringBuilder();

    private ReadmeAnswers() {
    }

    public static void main(String[] args) throws Exception {
        readBlocks();
        List<?> got = run();
        due("how many calls README.md tells an answer of", got.size(), calls.size());
        for (int i = 0; i < Math.min(calls.size(), got.size()); i++) {
            due("README.md: " + calls.get(i), (Long) got.get(i), wanted.get(i));
        }
        eachMethodIsShown();
        finish(calls.size() + " calls of README.md tried");
    }

    private static void readBlocks() throws IOException {
        String[] parts = Files.readString(README).split("(?m)^```");
        for (int i = 1; i < parts.length; i += 2) {
            if (parts[i].startsWith("java\nstatic")) {
                members.append(parts[i].substring(5));
            } else if (parts[i].startsWith("java\n")) {
                readStatements(parts[i].substring(5));
            }
        }
    }

    /** A statement ends with the line that has its semicolon outside of a text block; its remark is behind that. */
    private static void readStatements(String block) {
        StringBuilder statement = new StringBuilder();
        boolean inText = false;
        for (String line : block.split("\n")) {
            statement.append(line).append('\n');
            inText ^= line.contains("\"\"\"");
            if (!inText && line.replaceAll("\\s*//.*", "").endsWith(";")) {
                addStatement(statement.toString());
                statement.setLength(0);
            }
        }
        body.append(statement);
    }

    private static void addStatement(String statement) {
        Matcher remark = REMARK.matcher(statement);
        if (!remark.matches()) {
            body.append(statement);
            return;
        }
        String call = remark.group(1).strip();
        call = call.substring(0, call.length() - 1);
        calls.add(call.replaceAll("\\s+", " "));
        if (remark.group(2) != null) {
            wanted.add(1L);
            body.append("try {\n").append(call).append(";\ngot.add(0L);\n} catch (")
                    .append(remark.group(2)).append(" e) {\ngot.add(1L);\n}\n");
        } else {
            String answer = remark.group(3);
            wanted.add(answer.startsWith("Long") ? Long.MIN_VALUE : Long.parseLong(answer));
            body.append("got.add((long) ").append(call).append(");\n");
        }
    }

    private static List<?> run() throws Exception {
        Path folder = Files.createTempDirectory("readme");
        Path source = folder.resolve("Tried.java");
        Path compiled = folder.resolve("Tried.class");
        try {
            Files.writeString(source, "import java.util.*;\npublic class Tried {\n" + members
                    + "public static List<Long> answers() {\nList<Long> got = new ArrayList<>();\n"
                    + body + "return got;\n}\n}\n");
            String classes = System.getProperty("java.class.path");
            int failed = ToolProvider.getSystemJavaCompiler().run(null, null, null,
                    "-cp", classes, "-d", folder.toString(), source.toString());
            due("compiling what README.md shows", failed, 0);
            if (failed != 0) {
                return List.of();
            }
            try (URLClassLoader loader = new URLClassLoader(new URL[] {folder.toUri().toURL()})) {
                return (List<?>) loader.loadClass("Tried").getMethod("answers").invoke(null);
            }
        } finally {
            Files.deleteIfExists(compiled);
            Files.deleteIfExists(source);
            Files.deleteIfExists(folder);
        }
    }

    private static void eachMethodIsShown() {
        for (Method method : HatRoom.class.getDeclaredMethods()) {
            if (Modifier.isPublic(method.getModifiers())) {
                String start = "room." + method.getName() + "(";
                long times = calls.stream().filter(call -> call.startsWith(start)).count();
                due("whether README.md shows " + method.getName(), Math.min(times, 1), 1);
            }
        }
    }
}
