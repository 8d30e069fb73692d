import java.io.File;
import java.io.IOException;
import java.nio.charset.StandardCharsets;
import java.nio.file.Files;
import java.nio.file.Path;
import java.util.ArrayList;
import java.util.List;
import java.util.TreeSet;
import java.util.regex.Matcher;
import java.util.regex.Pattern;

/** Runs the program that README.md shows: it answers as README.md says; run from the project's folder. */
public final class GlassLeadersReadme {
    private static final Pattern PROGRAM = Pattern.compile("\n```java\n(.*?)\n```\n", Pattern.DOTALL);
    private static final Pattern ANSWERED = Pattern.compile("System\\.out\\.println\\(.*\\);(?: +// (\\S+).*)?");
    private static final Pattern TABLED = Pattern.compile("\n\\| (GlassLeaders\\w+) \\|");

    private static int wrong = 0;

    private static void say(String what) {
        wrong++;
        System.out.println(what);
    }

    private static List<String> found(Pattern pattern, String text) {
        List<String> all = new ArrayList<>();
        Matcher m = pattern.matcher(text);
        while (m.find()) {
            all.add(m.group(1));
        }
        return all;
    }

    /** What a command prints, line by line. */
    private static List<String> printedBy(String... command) throws IOException, InterruptedException {
        Process process = new ProcessBuilder(command).redirectError(ProcessBuilder.Redirect.INHERIT).start();
        process.getOutputStream().close();
        String printed = new String(process.getInputStream().readAllBytes(), StandardCharsets.UTF_8);
        if (process.waitFor() != 0) {
            say(command[0] + " fails on README.md's program");
        }
        return printed.lines().toList();
    }

    /** What the program prints: it is made and run as README.md says, beside the class that is tested. */
    private static List<String> printed(String program) throws IOException, InterruptedException {
        String classes = System.getProperty("java.class.path");
        Path folder = Files.createTempDirectory("readme");
        Path source = folder.resolve("Example.java");
        try {
            Files.writeString(source, program);
            printedBy("javac", "-cp", classes, "-d", folder.toString(), source.toString());
            return printedBy("java", "-cp", folder + File.pathSeparator + classes, "Example");
        } finally {
            removeAll(folder.toFile());
        }
    }

    private static void removeAll(File folder) {
        File[] files = folder.listFiles();
        for (File file : files == null ? new File[0] : files) {
            file.delete();
        }
        folder.delete();
    }

    private static void answers(String program) throws IOException, InterruptedException {
        List<String> due = found(ANSWERED, program);
        List<String> got = printed(program);
        if (due.size() < 20 || due.size() != got.size()) {
            say("README.md's program shows " + due.size() + " answers and prints " + got.size());
            return;
        }
        for (int i = 0; i < due.size(); i++) {
            if (!got.get(i).equals(due.get(i))) {
                say("answer " + (i + 1) + " of README.md's program is " + got.get(i) + ", it says " + due.get(i));
            }
        }
    }

    /** Each test stands in README.md's table, and none that is not there. */
    private static void tests(String readme) throws IOException {
        TreeSet<String> there = new TreeSet<>();
        try (var files = Files.list(Path.of("src/test/java"))) {
            files.forEach(file -> there.add(file.getFileName().toString().replace(".java", "")));
        }
        TreeSet<String> told = new TreeSet<>(found(TABLED, readme));
        if (!there.equals(told)) {
            say("README.md tells of the tests " + told + ", there are " + there);
        }
        if (!readme.contains("\n    bash .ci/run\n")) {
            say("README.md does not say how to run the tests");
        }
    }

    public static void main(String[] args) throws Exception {
        String readme = Files.readString(Path.of("README.md"));
        List<String> programs = found(PROGRAM, readme);
        if (programs.size() != 1) {
            say("README.md shows " + programs.size() + " programs");
        }
        for (String program : programs) {
            answers(program);
        }
        tests(readme);
        System.out.println(wrong == 0 ? "all is as README.md says" : wrong + " places are not as README.md says");
        if (wrong != 0) {
            System.exit(1);
        }
    }
}
