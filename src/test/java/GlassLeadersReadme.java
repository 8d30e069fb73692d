import java.io.ByteArrayOutputStream;
import java.io.File;
import java.io.IOException;
import java.io.PrintStream;
import java.net.URL;
import java.net.URLClassLoader;
import java.nio.charset.StandardCharsets;
import java.nio.file.Files;
import java.nio.file.Path;
import java.util.ArrayList;
import java.util.List;
import java.util.TreeSet;
import java.util.regex.Matcher;
import java.util.regex.Pattern;
import javax.tools.JavaCompiler;
import javax.tools.ToolProvider;

/** Runs the program that README.md shows: it answers as README.md says; run from the project's folder. */
public final class GlassLeadersReadme {
    private static final Pattern PROGRAM = Pattern.compile("\n```java\n(.*?)\n```\n", Pattern.DOTALL);
    private static final Pattern ANSWERED = Pattern.compile("System\\.out\\.println\\(.*\\);(?: +// (\\S+).*)?");

    private static int wrong = 0;

    private static void say(String what) {
        wrong++;
        System.out.println(what);
    }

    private static List<String> found(Pattern pattern, String text) {
        List<String> all = new ArrayList<>();
        Matcher m = pattern.matcher(text);
        while (m.find()) {
            all.add(m.group(1));
        }
        return all;
    }

    /** What the program prints, line by line; nothing, if it does not stand. */
    private static List<String> printed(String program) throws Exception {
        Path folder = Files.createTempDirectory("readme");
        Path source = folder.resolve("Example.java");
        try {
            Files.writeString(source, program);
            JavaCompiler compiler = ToolProvider.getSystemJavaCompiler();
            if (compiler == null) {
                say("there is no compiler");
                return List.of();
            }
            if (compiler.run(null, null, null, "-cp", System.getProperty("java.class.path"),
                    "-d", folder.toString(), source.toString()) != 0) {
                say("README.md's program can't be compiled");
                return List.of();
            }
            return run(folder);
        } finally {
            removeAll(folder);
        }
    }

    private static List<String> run(Path folder) throws Exception {
        PrintStream out = System.out;
        ByteArrayOutputStream caught = new ByteArrayOutputStream();
        try (URLClassLoader loader = new URLClassLoader(new URL[] {folder.toUri().toURL()})) {
            System.setOut(new PrintStream(caught, true, StandardCharsets.UTF_8));
            loader.loadClass("Example").getMethod("main", String[].class).invoke(null, (Object) new String[0]);
        } finally {
            System.setOut(out);
        }
        return caught.toString(StandardCharsets.UTF_8).lines().toList();
    }

    private static void removeAll(Path folder) {
        File[] files = folder.toFile().listFiles();
        for (File file : files == null ? new File[0] : files) {
            file.delete();
        }
        folder.toFile().delete();
    }

    private static void answers(String program) throws Exception {
        List<String> due = found(ANSWERED, program);
        List<String> got = printed(program);
        if (due.size() < 20 || due.size() != got.size()) {
            say("README.md's program shows " + due.size() + " answers and prints " + got.size());
            return;
        }
        for (int i = 0; i < due.size(); i++) {
            if (!got.get(i).equals(due.get(i))) {
                say("answer " + (i + 1) + " of README.md's program is " + got.get(i) + ", it says " + due.get(i));
            }
        }
    }

    /** Each test stands in README.md's table, and none that is not there. */
    private static void tests(String readme) throws IOException {
        TreeSet<String> there = new TreeSet<>();
        try (var files = Files.list(Path.of("src/test/java"))) {
            files.forEach(file -> there.add(file.getFileName().toString().replace(".java", "")));
        }
        TreeSet<String> told = new TreeSet<>(found(Pattern.compile("\n\\| (GlassLeaders\\w+) \\|"), readme));
        if (!there.equals(told)) {
            say("README.md tells of the tests " + told + ", there are " + there);
        }
        if (!readme.contains("\n    bash .ci/run\n")) {
            say("README.md does not say how to run the tests");
        }
    }

    public static void main(String[] args) throws Exception {
        String readme = Files.readString(Path.of("README.md"));
        List<String> programs = found(PROGRAM, readme);
        if (programs.size() != 1) {
            say("README.md shows " + programs.size() + " programs");
        }
        for (String program : programs) {
            answers(program);
        }
        tests(readme);
        System.out.println(wrong == 0 ? "all is as README.md says" : wrong + " places are not as README.md says");
        if (wrong != 0) {
            System.exit(1);
        }
    }
}
