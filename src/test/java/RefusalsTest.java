import java.lang.reflect.Method;
import java.lang.reflect.Modifier;
import java.util.ArrayList;
import java.util.Arrays;
import java.util.Comparator;
import java.util.List;
import java.util.Random;
import java.util.Set;

/**
 * The sentence on refusals at the top of Terms, held behind runs of calls by chance (the same ones
 * at every time): a refused call changes nothing, drawer() uses up THE TAPE alone, and a call that
 * only asks changes nothing, whatever it answers.
 */
public final class RefusalsTest {
    private static final int RUNS = 150, CALLS = 120, ASKED = 6;
    private static final int[] NUMBERS = {0, 0, 0, 0, 1, 1, 1, 2, 2, 3, 3, 4, 5, 6, 7, 8, 9, 10, 13, 20, 30, 40, 50, 60,
        99, 100, -1, -2, 31, 61, 41, Integer.MIN_VALUE, Integer.MAX_VALUE};

    private static final Set<String> ASKING = Set.of("lawOf", "of", "dabOf", "legOf", "minutes", "open", "seen", "when",
        "dabbed", "bestLeg", "turned", "better", "good", "pairs", "mate", "costs", "worth", "since", "from", "month",
        "row", "judge", "item", "taken", "trace", "many");
    /** What these answer below 0 need be no refusal: -9 and what it was, z, what an act() comes to. */
    private static final Set<String> ANSWERING = Set.of("wear", "alterRow", "seed", "act");

    private static final List<Method> METHODS = new ArrayList<>();

    private record Told(Method method, Object[] arguments) {
        long ask(NylonLadder x) {
            try {
                return ((Number) method.invoke(x, arguments)).longValue();
            } catch (ReflectiveOperationException e) {
                throw new IllegalStateException(this + " throws", e);
            }
        }

        @Override
        public String toString() {
            return method.getName() + Arrays.toString(arguments);
        }
    }

    public static void main(String[] args) {
        for (Method method : NylonLadder.class.getDeclaredMethods()) {
            if (Modifier.isPublic(method.getModifiers())) {
                METHODS.add(method);
            }
        }
        METHODS.sort(Comparator.comparing(Method::getName));
        for (int seed = 0; seed < RUNS; seed++) {
            run(new Random(seed), seed);
        }
        Check.end("RefusalsTest");
    }

    private static void run(Random random, int seed) {
        List<Told> told = new ArrayList<>();
        for (int i = 0; i < CALLS; i++) {
            told.add(call(random, METHODS.get(random.nextInt(METHODS.size()))));
            if (random.nextInt(3) > 0) {
                told.add(furnishing(random));
            }
        }
        Edge.Making made = x -> told.forEach(t -> t.ask(x));
        for (int i = 0; i < ASKED; i++) {
            for (Method method : METHODS) {
                Told asked = call(random, method);
                NylonLadder x = new NylonLadder();
                made.make(x);
                long answer = asked.ask(x);
                boolean isRefused = answer < 0 && !ANSWERING.contains(method.getName());
                if (method.getName().equals("drawer") && isRefused) {
                    Edge.changes("run " + seed + ", " + asked, made, asked::ask, answer, "many(5)", "drawer()", "told: ");
                } else if (isRefused && i < 2 || ASKING.contains(method.getName()) && i == 2) {
                    Edge.still("run " + seed + ", " + asked, made, asked::ask, answer);
                }
            }
        }
    }

    /** A call that brings something, with numbers that are as told. */
    private static Told furnishing(Random random) {
        switch (random.nextInt(8)) {
            case 0: return told("stocking", random.nextInt(6), random.nextInt(10), random.nextInt(2), 1 + random.nextInt(9));
            case 1: return told("snag", random.nextInt(8), random.nextInt(100));
            case 2: return told("wear", random.nextInt(2), random.nextInt(8));
            case 3: return told("leg", random.nextInt(2), random.nextInt(4), 1 + random.nextInt(9));
            case 4: return told("dab", random.nextInt(8), random.nextInt(100));
            case 5: return told("shelf", random.nextInt(4), random.nextInt(2), random.nextInt(4));
            case 6: return told("sheet", random.nextInt(4), random.nextInt(4), random.nextInt(12));
            default: return told("feed", 0x3b312070657473L, 7);
        }
    }

    private static Told told(String name, Object... arguments) {
        for (Method method : METHODS) {
            if (method.getName().equals(name)) {
                return new Told(method, arguments);
            }
        }
        throw new IllegalStateException(name);
    }

    private static Told call(Random random, Method method) {
        Object[] arguments = new Object[method.getParameterCount()];
        for (int i = 0; i < arguments.length; i++) {
            int number = NUMBERS[random.nextInt(NUMBERS.length)];
            if (method.getParameterTypes()[i] == long.class) {
                arguments[i] = random.nextLong();
            } else {
                arguments[i] = number;
            }
        }
        return new Told(method, arguments);
    }
}
