import java.io.ByteArrayOutputStream;
import java.io.File;
import java.io.PrintStream;
import java.lang.reflect.Method;
import java.lang.reflect.Modifier;
import java.net.URL;
import java.net.URLClassLoader;
import java.nio.file.Files;
import java.nio.file.Path;
import java.util.ArrayList;
import java.util.Comparator;
import java.util.List;
import java.util.Map;
import java.util.Random;
import java.util.Set;
import java.util.TreeMap;
import java.util.TreeSet;
import java.util.regex.Matcher;
import java.util.regex.Pattern;
import javax.tools.ToolProvider;

/** What README.md shows is true of the class; it is looked for from the root of the checkout. */
public final class ReadmeTest {
    private static final String MADE = "NylonLadder x = new NylonLadder();";
    /** A call and what it answers; behind a colon the page may say why. */
    private static final Pattern ANSWERED = Pattern.compile("((?:x\\.\\w+|tell)\\(.*\\));\\s*// (-?\\d+)(: .*)?");
    private static final Pattern QUOTED = Pattern.compile("`(\\w+)`");
    private static final Set<String> REFUSING_NONE = Set.of("seed", "row", "alterRow", "act", "trace");
    /** Their answers may be any number, so only the refusals that must come can be looked for. */
    private static final Set<String> ANY_NUMBER = Set.of("item", "act");
    private static final Set<String> NUMBERS_ALONE = Set.of("seed", "row", "alterRow");
    private static final int[] REFUSALS = {-1, -2, -3, -4, -11, -12, -13, -14, -15};
    private static final int TRIES = 400, CALLS_OF_ONE = 20;

    private final List<String> page;
    private final Path room;
    private final List<String> javas = new ArrayList<>();
    private final List<String> texts = new ArrayList<>();

    private ReadmeTest(Path readme, Path room) throws Exception {
        page = Files.readAllLines(readme);
        this.room = room;
    }

    public static void main(String[] args) throws Exception {
        Path room = Files.createTempDirectory("readme");
        try {
            ReadmeTest test = new ReadmeTest(Path.of("README.md"), room);
            test.readBlocks();
            test.checkPrograms();
            test.checkAnswers();
            test.checkText();
            test.checkTests();
            test.checkRefusals();
        } finally {
            for (File file : room.toFile().listFiles()) {
                file.delete();
            }
            Files.delete(room);
        }
        Check.end("ReadmeTest");
    }

    private void readBlocks() {
        StringBuilder block = null;
        String kind = "";
        for (String line : page) {
            if (line.startsWith("```") && block == null) {
                kind = line.substring(3);
                block = new StringBuilder();
            } else if (line.startsWith("```")) {
                List<String> blocks = kind.equals("java") ? javas : kind.equals("text") ? texts : new ArrayList<>();
                blocks.add(block.toString());
                block = null;
            } else if (block != null) {
                block.append(line).append('\n');
            }
        }
        Check.holds("each block of the page ends", block == null);
        Check.holds("the page has blocks", javas.size() > 1 && texts.size() > 1);
    }

    /** A whole program is the first block; what it says is the first text. */
    private void checkPrograms() throws Exception {
        Matcher name = Pattern.compile("class (\\w+)").matcher(javas.get(0));
        Check.holds("the first block is a program", name.find());
        Check.holds("the page names its file", String.join("\n", page).contains("`" + name.group(1) + ".java`"));
        String said = saidBy(name.group(1), javas.get(0));
        Check.holds("the program says " + said + " and not " + texts.get(0), said.equals(texts.get(0)));
    }

    /** The other blocks become one program: each a method, but for those that are methods already. */
    private void checkAnswers() throws Exception {
        StringBuilder program = new StringBuilder("public final class Answers {\n");
        StringBuilder main = new StringBuilder("public static void main(String[] args) {\n");
        program.append("static void due(String call, long got, long want) {\nif (got != want) {\n")
            .append("System.out.println(call + \" answers \" + got + \" and not \" + want);\n}\n}\n");
        for (int i = 1; i < javas.size(); i++) {
            if (javas.get(i).startsWith("static ")) {
                program.append(javas.get(i));
            } else {
                program.append("static void block").append(i).append("() {\n").append(answersOf(javas.get(i)))
                    .append("}\n");
                main.append("block").append(i).append("();\n");
            }
        }
        program.append(main).append("}\n}\n");
        String said = saidBy("Answers", program.toString());
        Check.holds("in README.md: " + said, said.isEmpty());
    }

    private static String answersOf(String block) {
        StringBuilder dues = new StringBuilder();
        for (String line : block.split("\n")) {
            Matcher answered = ANSWERED.matcher(line);
            boolean isAnswered = answered.matches();
            Check.holds("a call with its answer: " + line, isAnswered || line.equals(MADE));
            if (isAnswered) {
                String call = answered.group(1);
                dues.append("due(\"").append(call.replace("\"", "\\\"")).append("\", ").append(call).append(", ")
                    .append(answered.group(2)).append("L);\n");
            } else {
                dues.append(line).append('\n');
            }
        }
        return dues.toString();
    }

    private String saidBy(String name, String program) throws Exception {
        Path file = room.resolve(name + ".java");
        Files.writeString(file, program);
        int failed = ToolProvider.getSystemJavaCompiler().run(null, null, null, "-cp",
            System.getProperty("java.class.path"), "-d", room.toString(), file.toString());
        Check.due("compiling " + name, failed, 0);
        if (failed != 0) {
            return "nothing";
        }
        PrintStream out = System.out;
        ByteArrayOutputStream said = new ByteArrayOutputStream();
        try (URLClassLoader loader = new URLClassLoader(new URL[] {room.toUri().toURL()})) {
            System.setOut(new PrintStream(said, true));
            loader.loadClass(name).getMethod("main", String[].class).invoke(null, (Object) new String[0]);
        } finally {
            System.setOut(out);
        }
        return said.toString().replace("\r", "");
    }

    /** The text that is shown is the one that is told, and as long as the page says. */
    private void checkText() {
        String text = texts.get(1).strip();
        String whole = String.join("\n", page);
        Check.holds("the text's length is " + text.length(), whole.contains("That is " + text.length() + " bytes"));
        Check.holds("the text is told: " + text, whole.contains("tell(x, \"" + text + "\");"));
    }

    private void checkTests() throws Exception {
        Set<String> told = new TreeSet<>();
        for (String line : page) {
            if (line.matches("\\| `\\w+Test` \\|.*")) {
                told.add(line.split("`")[1]);
            }
        }
        Set<String> there = new TreeSet<>();
        for (String file : new File("src/test/java").list()) {
            if (file.endsWith("Test.java")) {
                there.add(file.substring(0, file.length() - 5));
            }
        }
        Check.holds("the tests that are told are " + there + " and not " + told, told.equals(there));
    }

    /** Which calls answer a refusal, by the page's table and by what they answer to numbers by chance. */
    private void checkRefusals() throws Exception {
        for (Method call : face()) {
            String name = call.getName();
            Set<Integer> told = refusalsTold(call);
            Set<Integer> got = NUMBERS_ALONE.contains(name) ? told : refusalsOf(call);
            if (ANY_NUMBER.contains(name)) {
                got.retainAll(told);
            }
            Check.holds(name + " refuses with " + got + " and not " + told, got.equals(told));
        }
    }

    private static List<Method> face() {
        List<Method> face = new ArrayList<>();
        for (Method call : NylonLadder.class.getDeclaredMethods()) {
            if (Modifier.isPublic(call.getModifiers())) {
                face.add(call);
            }
        }
        face.sort(Comparator.comparing(Method::getName));
        return face;
    }

    private Set<Integer> refusalsTold(Method call) {
        Set<Integer> told = new TreeSet<>();
        Map<Integer, String> rows = new TreeMap<>();
        for (String line : page) {
            Matcher row = Pattern.compile("\\| (-\\d+)( `\\w+`)? \\|[^|]*\\|([^|]*)\\|").matcher(line);
            if (row.matches()) {
                rows.put(Integer.parseInt(row.group(1)), row.group(3));
            }
        }
        Check.due("refusals in the table", rows.size(), REFUSALS.length);
        if (call.getParameterCount() > 0 && !REFUSING_NONE.contains(call.getName())) {
            told.add(-1);
        }
        rows.remove(-1);
        rows.forEach((refusal, calls) -> {
            Matcher quoted = QUOTED.matcher(calls);
            while (quoted.find()) {
                if (quoted.group(1).equals(call.getName())) {
                    told.add(refusal);
                }
            }
        });
        return told;
    }

    private static Set<Integer> refusalsOf(Method call) throws Exception {
        Set<Integer> refusals = new TreeSet<>();
        Edge.Making[] makings = {Edge.NEW, Edge.SOME, Edge.FULL, ReadmeTest::makeWorn};
        Random random = new Random(7);
        for (int i = 0; i < TRIES; i++) {
            NylonLadder x = new NylonLadder();
            makings[i % makings.length].make(x);
            for (int j = 0; j < CALLS_OF_ONE; j++) {
                long answer = ((Number) call.invoke(x, arguments(call, random))).longValue();
                for (int refusal : REFUSALS) {
                    if (answer == refusal) {
                        refusals.add(refusal);
                    }
                }
            }
        }
        return refusals;
    }

    /** Two stockings worn as often as they last. */
    private static void makeWorn(NylonLadder x) {
        Check.told(x, "plain 0 shade 0 lasts 1;plain 0 shade 0 lasts 1;");
        x.day();
    }

    private static Object[] arguments(Method call, Random random) {
        Object[] arguments = new Object[call.getParameterCount()];
        for (int i = 0; i < arguments.length; i++) {
            int v = random.nextInt(3) == 0 ? random.nextInt(110) - 5 : random.nextInt(5) - 1;
            arguments[i] = call.getParameterTypes()[i] == long.class ? (Object) (long) v : (Object) v;
        }
        return arguments;
    }
}
