import java.lang.reflect.Method;
import java.util.ArrayList;
import java.util.Arrays;
import java.util.Comparator;
import java.util.List;
import java.util.Map;
import java.util.Random;
import java.util.Set;

/** Runs of calls by chance, the same ones at every time, held against the Model. */
public final class ModelTest {
    private static final int RUNS = 2000, CALLS = 512;
    private static final int[] EDGES = {-1, 0, 1, 2, 3, 4, 5, 7, 8, 9, 10, 13, 20, 30, 40, 49, 50, 60, 99, 100, 999,
        Integer.MIN_VALUE, Integer.MAX_VALUE, -2, 61, 31, 41, 1000, 127, 128, -129};

    private static final Set<String> RARE = Set.of("clear", "again", "drawer", "feed", "day", "go", "set");
    private static final Map<String, String> MOST = Map.ofEntries(Map.entry("set", "7V"), Map.entry("lawOf", "7"),
        Map.entry("stocking", "591Z"), Map.entry("of", "S9"), Map.entry("mind", "S59"), Map.entry("snag", "SR"),
        Map.entry("turn", "S3"), Map.entry("dab", "SR"), Map.entry("dabOf", "SR"), Map.entry("wash", "S"),
        Map.entry("mend", "S"), Map.entry("wear", "1S"), Map.entry("leg", "13N"), Map.entry("legOf", "1L2"),
        Map.entry("move", "3"), Map.entry("open", "11L"), Map.entry("seen", "31L"), Map.entry("when", "11R"),
        Map.entry("dabbed", "11L"), Map.entry("bestLeg", "11M"), Map.entry("turned", "11Z"), Map.entry("mate", "S"),
        Map.entry("costs", "S11"), Map.entry("worth", "S"), Map.entry("since", "S1R"), Map.entry("from", "S1L"),
        Map.entry("seed", "I"), Map.entry("month", "T"), Map.entry("row", "L2"), Map.entry("alterRow", "L2R"),
        Map.entry("minds", "39S3"), Map.entry("sheet", "33Z"), Map.entry("put", "39V"), Map.entry("item", "339"),
        Map.entry("shelf", "31S"), Map.entry("taken", "3Z"), Map.entry("act", "33I"), Map.entry("trace", "9"),
        Map.entry("many", "6"), Map.entry("feed", "88"));

    private final List<Method> calls = new ArrayList<>();
    private final List<Method> modelled = new ArrayList<>();
    private final Random random;
    private final NylonLadder x = new NylonLadder();
    private final Model model = new Model();
    private final List<String> told = new ArrayList<>();
    private boolean isRight = true;

    private ModelTest(long seed) throws Exception {
        random = new Random(seed);
        for (Method call : NylonLadder.class.getDeclaredMethods()) {
            if (java.lang.reflect.Modifier.isPublic(call.getModifiers())) {
                calls.add(call);
            }
        }
        calls.sort(Comparator.comparing(Method::getName));
        for (Method call : calls) {
            modelled.add(Model.class.getMethod(call.getName(), call.getParameterTypes()));
        }
    }

    public static void main(String[] args) throws Exception {
        int runs = args.length > 1 ? Integer.parseInt(args[1]) : RUNS;
        for (int seed = 0; seed < runs; seed++) {
            ModelTest test = new ModelTest(seed);
            test.run();
            Check.holds("run " + seed, test.isRight);
            if (!test.isRight) {
                break;
            }
        }
        Check.end("ModelTest");
    }

    private void run() throws Exception {
        boolean hasText = random.nextBoolean();
        if (hasText) {
            feedAll(text());
        }
        for (int i = hasText ? 0 : 40; i > 0; i--) {
            furnish();
        }
        while (isRight && told.size() < CALLS) {
            int chance = random.nextInt(100);
            if (chance < 80) {
                int which = random.nextInt(calls.size());
                boolean isRare = RARE.contains(calls.get(which).getName()) && random.nextInt(20) != 0;
                if (!isRare) {
                    call(which, arguments(calls.get(which)));
                }
            } else if (chance < 99) {
                furnish();
            } else if (told.size() < CALLS - 30 && random.nextInt(2) == 0) {
                feedAll(text());
            }
        }
        if (!isRight) {
            told.subList(Math.max(0, told.size() - 60), told.size()).forEach(System.out::println);
        }
    }

    /** A call of those that bring something into the drawer, with numbers that are as told. */
    private void furnish() throws Exception {
        switch (random.nextInt(8)) {
            case 0: ask("stocking", kind(), random.nextInt(10), random.nextInt(2), 1 + random.nextInt(8)); break;
            case 1: ask("snag", random.nextInt(8), random.nextInt(100)); break;
            case 2: ask("wear", random.nextInt(2), random.nextInt(8)); break;
            case 3: ask("leg", random.nextInt(2), random.nextInt(4), 1 + random.nextInt(5)); break;
            case 4: ask("leg", random.nextInt(2), random.nextInt(4), 1 + random.nextInt(60)); break;
            case 5: ask("dab", random.nextInt(8), random.nextInt(100)); break;
            case 6: ask("shelf", random.nextInt(4), random.nextInt(2), random.nextInt(8)); break;
            default: ask("sheet", random.nextInt(4), random.nextInt(4), random.nextInt(12)); break;
        }
    }

    private int kind() {
        return random.nextInt(3) == 0 ? random.nextInt(6) : random.nextInt(2);
    }

    private void ask(String name, int... numbers) throws Exception {
        for (int i = 0; i < calls.size(); i++) {
            if (calls.get(i).getName().equals(name)) {
                call(i, Arrays.stream(numbers).boxed().toArray());
            }
        }
    }

    private Object[] arguments(Method call) {
        Object[] arguments = new Object[call.getParameterCount()];
        String most = MOST.getOrDefault(call.getName(), "11111");
        boolean isWild = random.nextInt(12) == 0;
        for (int i = 0; i < arguments.length; i++) {
            if (call.getParameterTypes()[i] == long.class) {
                arguments[i] = random.nextLong();
            } else if (isWild || random.nextInt(25) == 0) {
                arguments[i] = random.nextInt(3) == 0 ? random.nextInt() : EDGES[random.nextInt(EDGES.length)];
            } else {
                arguments[i] = argument(most.charAt(i));
            }
        }
        return arguments;
    }

    /** By a digit a number up to it; by a letter one of a thing of that sort. */
    private int argument(char sort) {
        switch (sort) {
            case 'S': return random.nextInt(Math.max(1, model.many(0)));
            case 'R': return random.nextInt(4) == 0 ? random.nextInt(100) : nearRung();
            case 'L': return random.nextInt(Math.max(model.many(1) / 2, 1) + 2);
            case 'M': return random.nextInt(1000) / (1 + random.nextInt(30));
            case 'N': return random.nextInt(61) / (1 + random.nextInt(10));
            case 'I': return random.nextInt();
            case 'T': return random.nextInt(31);
            case 'V': return random.nextInt(random.nextBoolean() ? 11 : 200);
            case 'Z': return random.nextInt(16);
            default: return random.nextInt(sort - '0' + 1);
        }
    }

    private int nearRung() {
        int stocking = random.nextInt(Math.max(1, model.many(0)));
        int rung = model.of(stocking, 6 + random.nextInt(2)) + random.nextInt(7) - 3;
        return Math.max(0, Math.min(99, rung));
    }

    private void call(int which, Object[] arguments) throws Exception {
        if (!isRight || told.size() >= CALLS) {
            return;
        }
        Object want = modelled.get(which).invoke(model, arguments);
        Object got;
        try {
            got = calls.get(which).invoke(x, arguments);
        } catch (java.lang.reflect.InvocationTargetException thrown) {
            got = thrown.getCause();
        }
        told.add(calls.get(which).getName() + Arrays.toString(arguments) + ": " + got);
        if (!want.equals(got)) {
            isRight = false;
            told.add("due was " + want);
        }
    }

    private void feedAll(String text) throws Exception {
        for (int i = 0; i < text.length(); i += 8) {
            long eight = 0;
            int n = Math.min(8, text.length() - i);
            for (int j = 0; j < n; j++) {
                eight |= (long) (text.charAt(i + j) & 255) << (8 * j);
            }
            for (int j = 0; j < calls.size(); j++) {
                if (calls.get(j).getName().equals("feed")) {
                    call(j, new Object[] {eight, n});
                }
            }
        }
        ask("drawer");
    }

    private String text() {
        StringBuilder text = new StringBuilder();
        int clauses = random.nextInt(9);
        if (random.nextBoolean()) {
            text.append("plain 1 shade 1 lasts 3; mesh 2 shade 1 lasts 12 ladder 7 to 9;");
        }
        for (int i = 0; i < clauses && text.length() < 150; i++) {
            text.append(clause());
        }
        if (random.nextInt(3) == 0 && text.length() > 0) {
            spoil(text);
        }
        return text.substring(0, Math.min(200, text.length()));
    }

    private String number(int most) {
        int number = random.nextInt(random.nextInt(40) == 0 ? 2 * most + 2 : most + 1);
        return (random.nextInt(40) == 0 ? "0" : "") + number + (random.nextBoolean() ? " " : "");
    }

    private String clause() {
        String[] kinds = {"plain", "sheer", "thick", "mesh", "lined", "old"};
        String[] moves = {"steps", "stairs", "sits", "stands"};
        switch (random.nextInt(6)) {
            case 0:
                return (random.nextBoolean() ? "left " : "right ") + number(1) + ";";
            case 1:
                return (random.nextBoolean() ? "step " : "bend ") + number(9) + "; ";
            case 2:
                StringBuilder way = new StringBuilder(random.nextBoolean() ? "go " : "cab ");
                for (int i = random.nextInt(random.nextInt(12) + 1); i >= 0; i--) {
                    way.append(moves[random.nextInt(4)]).append(' ').append(1 + random.nextInt(30)).append(i == 0 ? ";" : ",");
                }
                return way.toString();
            default:
                return kinds[random.nextInt(6)] + " " + number(9) + "shade " + number(1) + "lasts " + (1 + random.nextInt(30)) + " "
                    + (random.nextBoolean() ? "ladder " + number(40) + "to " + number(99) : "") + ";";
        }
    }

    private void spoil(StringBuilder text) {
        int place = random.nextInt(text.length());
        switch (random.nextInt(4)) {
            case 0: text.setLength(place); break;
            case 1: text.deleteCharAt(place); break;
            case 2: text.insert(place, " ;,az09{\u00e9\n".charAt(random.nextInt(10))); break;
            default: text.setCharAt(place, (char) random.nextInt(256)); break;
        }
    }
}
