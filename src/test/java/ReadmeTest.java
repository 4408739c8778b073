import java.io.File;
import java.io.IOException;
import java.lang.reflect.Method;
import java.lang.reflect.Modifier;
import java.nio.file.Files;
import java.nio.file.Path;
import java.util.ArrayList;
import java.util.List;
import java.util.Set;
import java.util.TreeSet;
import java.util.regex.Matcher;
import java.util.regex.Pattern;

/**
 * What README.md says is so: who follows its commands sees what they print there, each of its rows of calls answers
 * what the row tells, and the files that it names are there. Run from the project's folder.
 */
public final class ReadmeTest extends DueAnswers {
    private static final Path PAGE = Path.of("README.md");
    private static final Path TESTS = Path.of("src/test/java");
    private static final Pattern BLOCK = Pattern.compile("(?s)```(java|sh)\n(.*?)```");
    private static final Pattern ROW = Pattern.compile("desk\\.(\\w+)\\(([-\\d, ]*)\\); +// (-?\\d+|[A-Z]+): \\S.*");
    private static final Pattern PRINTS = Pattern.compile("It prints `([^`]+)`");
    private static final Pattern FILE = Pattern.compile("`([\\w./]*/[\\w./]+)`");
    /** The command that runs this test among the others: it can't be run by it. */
    private static final String ALL_TESTS = ".ci/run\n";

    private final String page;
    private final TwoBooks desk = new TwoBooks();
    private final Set<String> called = new TreeSet<>();
    private final List<String> programs = new ArrayList<>();

    private ReadmeTest(String page) {
        this.page = page;
    }

    private void javaBlocks() throws ReflectiveOperationException {
        Matcher block = BLOCK.matcher(page);
        while (block.find()) {
            if (!block.group(1).equals("java")) continue;
            if (block.group(2).contains("class ")) programs.add(block.group(2));
            else for (String row : block.group(2).split("\n")) answer(row);
        }
        by("README.md, every call");
        for (Method call : TwoBooks.class.getDeclaredMethods())
            if (Modifier.isPublic(call.getModifiers()) && !called.contains(call.getName())) miss(call.getName() + " is in no row");
    }

    private void answer(String text) throws ReflectiveOperationException {
        by("README.md, " + text);
        Matcher row = ROW.matcher(text);
        if (!row.matches()) {
            miss("is no call with its answer");
            return;
        }
        called.add(row.group(1));
        due("the call", call(row.group(1), row.group(2).split(", *")), number(row.group(3)));
    }

    private long call(String name, String[] words) throws ReflectiveOperationException {
        int many = words[0].isEmpty() ? 0 : words.length;
        Class<?>[] types = new Class<?>[many];
        Object[] values = new Object[many];
        for (int i = 0; i < many; i++) {
            types[i] = int.class;
            values[i] = Integer.valueOf(words[i].trim());
        }
        return ((Number) TwoBooks.class.getMethod(name, types).invoke(desk, values)).longValue();
    }

    private static long number(String word) throws ReflectiveOperationException {
        return Character.isLetter(word.charAt(0)) ? TwoBooks.class.getField(word).getInt(null) : Long.parseLong(word);
    }

    private void constants() throws ReflectiveOperationException {
        by("README.md, the constants");
        for (String name : List.of("NONE", "TAKEN", "LOCKED", "BIG", "FULL"))
            if (!page.contains("`" + name + "` (" + number(name) + ")")) miss(name + " is not told as it is");
    }

    /** The commands run in a folder of their own that has the project's sources and the page's program. */
    private void commands() throws IOException, InterruptedException {
        Path folder = Files.createTempDirectory("readme");
        Files.createSymbolicLink(folder.resolve("src"), Path.of("src").toAbsolutePath());
        for (String program : programs) Files.writeString(folder.resolve(nameOf(program)), program);
        int from = 0;
        Matcher block = BLOCK.matcher(page);
        while (block.find(from)) {
            from = block.end();
            if (!block.group(1).equals("sh") || block.group(2).equals(ALL_TESTS)) continue;
            by("README.md, " + block.group(2).replace("\n", "; "));
            String got = printed(folder, block.group(2));
            Matcher prints = PRINTS.matcher(page);
            if (!prints.find(from)) miss("the page does not tell what it prints");
            else if (!got.equals(prints.group(1))) miss("printed " + got + ", the page says " + prints.group(1));
        }
        remove(folder.toFile());
    }

    private static String nameOf(String program) {
        Matcher name = Pattern.compile("class (\\w+)").matcher(program);
        return name.find() ? name.group(1) + ".java" : "Nameless.java";
    }

    private static String printed(Path folder, String commands) throws IOException, InterruptedException {
        Process shell = new ProcessBuilder("sh", "-e", "-c", commands).directory(folder.toFile()).redirectErrorStream(true).start();
        String text = new String(shell.getInputStream().readAllBytes()).trim();
        if (shell.waitFor() != 0) miss("ended with " + shell.exitValue());
        return text;
    }

    private static void remove(File file) {
        File[] inside = Files.isSymbolicLink(file.toPath()) ? null : file.listFiles();
        if (inside != null) for (File each : inside) remove(each);
        file.delete();
    }

    private void files() throws IOException {
        by("README.md, the files");
        Matcher file = FILE.matcher(page);
        while (file.find()) if (!Files.exists(Path.of(file.group(1)))) miss(file.group(1) + " is not there");
        File[] tests = TESTS.toFile().listFiles();
        if (tests == null || tests.length == 0) miss("there are no tests");
        else for (File test : tests) if (!page.contains(TESTS + "/" + test.getName())) miss(test + " is not named");
    }

    public static void main(String[] args) throws IOException, InterruptedException, ReflectiveOperationException {
        ReadmeTest test = new ReadmeTest(Files.readString(PAGE));
        test.javaBlocks();
        test.constants();
        test.commands();
        test.files();
        end("the page README.md holds");
    }
}
