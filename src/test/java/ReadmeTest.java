import java.io.IOException;
import java.lang.reflect.Method;
import java.lang.reflect.Modifier;
import java.net.URL;
import java.net.URLClassLoader;
import java.nio.file.Files;
import java.nio.file.Path;
import java.util.ArrayList;
import java.util.List;
import java.util.Set;
import java.util.TreeSet;
import java.util.regex.Matcher;
import java.util.regex.Pattern;
import java.util.stream.Stream;
import javax.tools.ToolProvider;

/** README.md holds as it is written there: its example, its tables and its commands. */
public final class ReadmeTest {
    /** A line of the example: a call, and its answer as the first word of the comment. */
    private static final Pattern TOLD = Pattern.compile("(?:int (\\w+) = )?(yard\\.\\w+\\([^;]*\\));\\s+// (-?\\w+):.*");
    private static final Due due = new Due();

    public static void main(String[] args) throws Exception {
        String readme = Files.readString(Path.of("README.md"));
        Path room = Files.createTempDirectory("readme");
        try {
            theExample(readme, room);
            theSorts(readme);
            theCalls(readme);
            theRefusals(readme);
            theTests(readme);
            theCommands(readme, room);
        } finally {
            remove(room);
        }
        due.end();
    }

    private static void holds(String what, boolean held) {
        due.is(what, held ? 1 : 0, 1);
    }

    private static void remove(Path room) throws IOException {
        try (Stream<Path> all = Files.walk(room)) {
            all.sorted((a, b) -> b.compareTo(a)).forEach(path -> path.toFile().delete());
        }
    }

    private static List<String> blocks(String readme, String language) {
        List<String> blocks = new ArrayList<>();
        Matcher block = Pattern.compile("(?s)```" + language + "\n(.*?)```").matcher(readme);
        while (block.find()) {
            blocks.add(block.group(1));
        }
        holds("there is a block of " + language, !blocks.isEmpty());
        return blocks;
    }

    /** The rows of the table whose first heading this is, each cut into its cells. */
    private static List<String[]> table(String readme, String heading) {
        List<String[]> rows = new ArrayList<>();
        Matcher table = Pattern.compile("(?m)^\\| " + heading + " \\|.*\n\\|[- |]+\n((?:\\|.*\n)+)").matcher(readme);
        holds("there is a table of " + heading, table.find());
        for (String row : table.group(1).split("\n")) {
            String[] cells = row.substring(1).split("\\|");
            for (int i = 0; i < cells.length; i++) {
                cells[i] = cells[i].trim();
            }
            rows.add(cells);
        }
        return rows;
    }

    /** The example as a class whose answers() are pairs: what came, and what the comment tells. */
    private static String asClass(List<String> lines) {
        StringBuilder code = new StringBuilder("public final class Example { public static long[][] answers() {\n");
        StringBuilder pairs = new StringBuilder();
        for (int i = 0; i < lines.size(); i++) {
            Matcher told = TOLD.matcher(lines.get(i));
            if (!told.matches()) {
                code.append(lines.get(i)).append('\n');
                continue;
            }
            code.append("long answer").append(i).append(" = ").append(told.group(2)).append(";\n");
            if (told.group(1) != null) {
                code.append("int ").append(told.group(1)).append(" = (int) answer").append(i).append(";\n");
            }
            String want = Character.isLetter(told.group(3).charAt(0)) ? "CustomsYard." + told.group(3) : told.group(3);
            pairs.append("{answer").append(i).append(", ").append(want).append("},\n");
        }
        return code.append("return new long[][] {\n").append(pairs).append("}; } }\n").toString();
    }

    private static void theExample(String readme, Path room) throws Exception {
        List<String> lines = new ArrayList<>(blocks(readme, "java").get(0).lines().filter(line -> !line.isBlank()).toList());
        List<String> told = lines.stream().filter(line -> TOLD.matcher(line).matches()).toList();
        due.is("lines of the example that tell no answer, beside the one that makes the yard", lines.size() - told.size(), 1);
        for (Method method : CustomsYard.class.getDeclaredMethods()) {
            if (Modifier.isPublic(method.getModifiers())) {
                String call = "yard." + method.getName() + "(";
                holds("the example has " + call + ")", told.stream().anyMatch(line -> line.contains(call)));
            }
        }
        Path source = Files.writeString(room.resolve("Example.java"), asClass(lines));
        int compiled = ToolProvider.getSystemJavaCompiler().run(null, null, null,
            "-cp", System.getProperty("java.class.path"), "-d", room.toString(), source.toString());
        due.is("exit code of javac for the example", compiled, 0);
        if (compiled != 0) {
            return;
        }
        try (URLClassLoader loader = new URLClassLoader(new URL[] {room.toUri().toURL()})) {
            long[][] pairs = (long[][]) loader.loadClass("Example").getMethod("answers").invoke(null);
            for (int i = 0; i < pairs.length; i++) {
                due.is(told.get(i), pairs[i][0], pairs[i][1]);
            }
        }
    }

    private static Set<String> listed(String[] cells, int i) {
        return i < cells.length && !cells[i].isEmpty() ? new TreeSet<>(List.of(cells[i].split(", "))) : new TreeSet<>();
    }

    private static void theSorts(String readme) {
        List<String[]> rows = table(readme, "SORT");
        due.is("rows of the SORTS", rows.size(), 13);
        CustomsYard yard = Yards.oneOfEach(6);
        for (int sort = 0; sort < rows.size(); sort++) {
            String[] cells = rows.get(sort);
            due.is("the SORT of the row", Integer.parseInt(cells[0]), sort);
            int most = cells[2].equals("WEIGHT") ? 1000 : 6;
            due.is("the most of SORT " + sort, Yards.oneLoad(sort, most).count(0), 1);
            due.is("more than the most of SORT " + sort, Yards.oneLoad(sort, most + 1).count(0), 0);
            Set<String> views = new TreeSet<>(), taken = new TreeSet<>();
            for (int other = 0; other <= 13; other++) {
                if (yard.is(sort, other) == 1) {
                    views.add("" + other);
                }
                if (yard.put(sort, 0, other) == 1) {
                    taken.add("" + other);
                }
            }
            holds("SORT " + sort + " goes as " + views, listed(cells, 3).equals(views));
            holds("a place of SORT " + sort + " takes " + taken, listed(cells, 4).equals(taken));
        }
    }

    private static void theCalls(String readme) {
        Set<String> face = new TreeSet<>(), listed = new TreeSet<>();
        for (Method method : CustomsYard.class.getDeclaredMethods()) {
            if (Modifier.isPublic(method.getModifiers())) {
                face.add(method.getName() + " of " + method.getParameterCount());
            }
        }
        for (String[] cells : table(readme, "call")) {
            String[] parts = cells[0].replace("`", "").split("[(), ]+");
            listed.add(parts[0] + " of " + (parts.length - 1));
        }
        holds("the calls of the table, " + listed + ", are those of the class", listed.equals(face));
    }

    /** Of all calls but refused(), which never is, and count(), whose refusal refused() does not tell. */
    private static void theRefusals(String readme) {
        for (String[] cells : table(readme, "call")) {
            String name = cells[0].replaceAll("`|\\(.*", "");
            int which = List.of(ModelTest.NAMES).indexOf(name);
            if (which >= 0) {
                Set<String> told = new TreeSet<>(List.of(cells[2].split("[^A-Z]+")));
                told.retainAll(Set.of("BAD", "FULL", "CAST", "INDEX", "STORE"));
                Set<String> seen = refusalsOf(which);
                holds(name + " is refused by " + seen, told.equals(seen));
            }
        }
    }

    private static Set<String> refusalsOf(int which) {
        String[] names = {"", "", "BAD", "FULL", "CAST", "INDEX", "STORE"};
        Set<String> seen = new TreeSet<>();
        for (int a = -2; a <= 14; a++) {
            for (int b = -2; b <= 14; b++) {
                // New ones each time: an object has 512 calls.
                CustomsYard busy = RefusalsTest.busy(), full = RefusalsTest.busy();
                RefusalsTest.fill(full);
                for (int c = -2; c <= 14; c++) {
                    ModelTest.call(busy, which, a, b, c);
                    seen.add(names[-busy.refused()]);
                    ModelTest.call(full, which, a, b, c);
                    seen.add(names[-full.refused()]);
                }
            }
        }
        seen.remove("");
        return seen;
    }

    private static void theTests(String readme) throws IOException {
        Set<String> listed = new TreeSet<>(), present = new TreeSet<>();
        for (String[] cells : table(readme, "test")) {
            listed.add(cells[0].replace("`", ""));
        }
        try (Stream<Path> files = Files.list(Path.of("src/test/java"))) {
            files.map(file -> file.getFileName().toString()).filter(name -> name.endsWith("Test.java"))
                .forEach(name -> present.add(name.replace(".java", "")));
        }
        holds("the tests of the table are " + present, listed.equals(present));
    }

    /** But for .ci/run, which is what runs this; what the others write to lies in the room that is removed. */
    private static void theCommands(String readme, Path room) throws Exception {
        for (String block : blocks(readme, "sh")) {
            if (block.trim().equals(".ci/run")) {
                holds(".ci/run is there and can be run", Files.isExecutable(Path.of(".ci/run")));
                continue;
            }
            String script = block.replace(" build ", " '" + room.resolve("build") + "' ");
            Process shell = new ProcessBuilder("sh", "-e", "-c", script).redirectErrorStream(true).start();
            String said = new String(shell.getInputStream().readAllBytes());
            due.is("exit code of " + block + said, shell.waitFor(), 0);
        }
    }
}
