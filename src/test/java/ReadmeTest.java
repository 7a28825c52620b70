import java.io.IOException;
import java.lang.reflect.Method;
import java.lang.reflect.Modifier;
import java.net.URL;
import java.net.URLClassLoader;
import java.nio.file.Files;
import java.nio.file.Path;
import java.util.ArrayList;
import java.util.Comparator;
import java.util.List;
import java.util.Set;
import java.util.TreeSet;
import java.util.regex.Matcher;
import java.util.regex.Pattern;
import java.util.stream.Collectors;
import java.util.stream.Stream;
import javax.tools.JavaCompiler;
import javax.tools.ToolProvider;

/** What README.md shows is so: its calls answer what stands behind them, and its tests are those there are. */
public final class ReadmeTest {
    /** A call that stands by itself, with what it answers behind it. */
    private static final Pattern ANSWERED = Pattern.compile("^(house\\.\\w+\\(.*\\));\\s+// (-?\\d+)(: .*)?$");
    private static final Pattern CALL = Pattern.compile("\\bhouse\\.(\\w+)\\(");
    private static final Due DUE = new Due();

    public static void main(String[] args) throws Exception {
        String page = Files.readString(Path.of("README.md"));
        List<String> blocks = blocks(page, "java");
        DUE.isTrue("the page shows the use of the class", !blocks.isEmpty());
        everyCallHasItsAnswer(blocks);
        everyCallIsShown(blocks);
        refusalsAreTheConstants(page);
        testsAreThoseThereAre(page);
        Path folder = Files.createTempDirectory("readme");
        try {
            String commands = String.join("\n", blocks(page, "sh"));
            callsAnswerAsShown(blocks, commands, folder);
            testsAreRunAsShown(commands, folder);
        } finally {
            remove(folder);
        }
        DUE.close("ReadmeTest");
    }

    private static List<String> blocks(String page, String language) {
        List<String> found = new ArrayList<>();
        Matcher matcher = Pattern.compile("(?ms)^```" + language + "\n(.*?)^```$").matcher(page);
        while (matcher.find()) {
            found.add(matcher.group(1));
        }
        return found;
    }

    /** So that no call can slip by unlooked at for the form of its line. */
    private static void everyCallHasItsAnswer(List<String> blocks) {
        for (String block : blocks) {
            for (String line : block.split("\n")) {
                DUE.isTrue("'" + line + "' tells its answer",
                        !line.startsWith("house.") || ANSWERED.matcher(line).matches());
            }
        }
    }

    private static void everyCallIsShown(List<String> blocks) {
        Set<String> shown = new TreeSet<>();
        Matcher matcher = CALL.matcher(String.join("\n", blocks));
        while (matcher.find()) {
            shown.add(matcher.group(1));
        }
        Set<String> face = new TreeSet<>();
        for (Method method : ThankingGifts.class.getDeclaredMethods()) {
            if (Modifier.isPublic(method.getModifiers())) {
                face.add(method.getName());
            }
        }
        DUE.isTrue("the page shows " + shown + ", the face is " + face, shown.equals(face));
    }

    private static void refusalsAreTheConstants(String page) throws IllegalAccessException, NoSuchFieldException {
        Set<String> told = new TreeSet<>();
        Matcher matcher = Pattern.compile("(?m)^\\| `(\\w+)` \\| (-?\\d+) \\|").matcher(page);
        while (matcher.find()) {
            told.add(matcher.group(1));
            int constant = ThankingGifts.class.getField(matcher.group(1)).getInt(null);
            DUE.is("the page's " + matcher.group(1), Integer.parseInt(matcher.group(2)), constant);
        }
        DUE.is("refusals in the page's table", told.size(), ThankingGifts.class.getFields().length);
    }

    private static void testsAreThoseThereAre(String page) throws IOException {
        Set<String> told = new TreeSet<>();
        Matcher matcher = Pattern.compile("`(\\w+Test)`:").matcher(page);
        while (matcher.find()) {
            told.add(matcher.group(1) + ".java");
        }
        Set<String> there;
        try (Stream<Path> files = Files.list(Path.of("src/test/java"))) {
            there = files.map(file -> file.getFileName().toString()).filter(name -> name.endsWith("Test.java"))
                    .collect(Collectors.toCollection(TreeSet::new));
        }
        DUE.isTrue("the page tells of " + told + ", there are " + there, told.equals(there));
        DUE.isTrue("'bash .ci/run' is shown", blocks(page, "sh").contains("bash .ci/run\n"));
        DUE.isTrue(".ci/run can be run", Files.isExecutable(Path.of(".ci/run")));
    }

    /** The page's calls are 'Yours.java', compiled as the page says. */
    private static void callsAnswerAsShown(List<String> blocks, String commands, Path folder) throws Exception {
        Path yours = folder.resolve("Yours.java");
        Files.writeString(yours, program(blocks));
        Path out = folder.resolve("yours");
        String command = lineWith(commands, "javac ", " Yours.java");
        DUE.isTrue("'java -cp out Yours' is shown", commands.contains("java -cp out Yours\n"));
        if (!compiles(command.replace(" Yours.java", " " + yours), out)) {
            return;
        }
        List<Integer> answers = new ArrayList<>();
        try (URLClassLoader loader = new URLClassLoader(new URL[] {out.toUri().toURL()}, null)) {
            Method run = loader.loadClass("Yours").getDeclaredMethod("run", List.class);
            run.setAccessible(true);
            run.invoke(null, answers);
        }
        compare(blocks, answers);
    }

    private static String program(List<String> blocks) {
        StringBuilder text = new StringBuilder("final class Yours {\n");
        text.append("static void run(java.util.List<Integer> answers) {\n");
        for (String block : blocks) {
            text.append("{\n");
            for (String line : block.split("\n")) {
                Matcher matcher = ANSWERED.matcher(line);
                text.append(matcher.matches() ? "answers.add(" + matcher.group(1) + ");" : line).append('\n');
            }
            text.append("}\n");
        }
        return text.append("}\n}\n").toString();
    }

    private static void compare(List<String> blocks, List<Integer> answers) {
        int asked = 0;
        for (String line : String.join("", blocks).split("\n")) {
            Matcher matcher = ANSWERED.matcher(line);
            if (matcher.matches() && asked < answers.size()) {
                DUE.is("README.md: " + matcher.group(1), answers.get(asked), Long.parseLong(matcher.group(2)));
                asked++;
            }
        }
        DUE.is("answers that were compared", asked, answers.size());
    }

    private static void testsAreRunAsShown(String commands, Path folder) {
        compiles(lineWith(commands, "javac ", " src/test/java/PromisesTest.java"), folder.resolve("test"));
        DUE.isTrue("'java -cp out PromisesTest' is shown", commands.contains("java -cp out PromisesTest\n"));
    }

    private static String lineWith(String commands, String start, String end) {
        for (String line : commands.split("\n")) {
            if (line.startsWith(start) && line.endsWith(end)) {
                return line;
            }
        }
        DUE.isTrue("a command '" + start + ".." + end + "' is shown", false);
        return "";
    }

    /** With no classes but those it makes, as on a machine where nothing was compiled ahead. */
    private static boolean compiles(String command, Path out) {
        List<String> words = new ArrayList<>(List.of("-classpath", out.toString()));
        for (String word : command.replaceFirst("^javac ", "").split(" ")) {
            words.add(word.equals("out") ? out.toString() : word);
        }
        JavaCompiler compiler = ToolProvider.getSystemJavaCompiler();
        boolean well = compiler != null && compiler.run(null, null, null, words.toArray(new String[0])) == 0;
        DUE.isTrue("'" + command + "' compiles", well);
        return well;
    }

    private static void remove(Path folder) throws IOException {
        List<Path> all;
        try (Stream<Path> files = Files.walk(folder)) {
            all = files.sorted(Comparator.reverseOrder()).toList();
        }
        for (Path file : all) {
            Files.delete(file);
        }
    }
}
