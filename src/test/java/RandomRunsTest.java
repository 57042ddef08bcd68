import java.lang.reflect.InvocationTargetException;
import java.lang.reflect.Method;
import java.lang.reflect.Modifier;
import java.util.ArrayList;
import java.util.Arrays;
import java.util.List;
import java.util.Map;
import java.util.TreeMap;

/** Made-up runs of calls: SlipHeaps has to answer as the Model does. Arguments: how many runs, the first seed. */
public final class RandomRunsTest {
    private static final Map<String, Method> FACE = methodsOf(SlipHeaps.class);
    private static final Map<String, Method> PLAIN = methodsOf(Model.class);
    private static final String[] PAIR_CALLS = {"weight", "why", "forget", "loose", "put", "always", "edge", "swap", "join"};
    private static final String[] ENTRY_CALLS = {"best", "many", "first", "asked", "alone"};
    private static final String[] BARE_CALLS = {"cost", "barred", "bound", "rings", "all", "take", "mark", "back", "fault"};

    private final Texts dice;
    private final SlipHeaps real = new SlipHeaps();
    private final Model model = new Model();
    private final List<String> story = new ArrayList<>();
    private final int size;
    private final int strength;
    private final boolean thin;
    private int calls;
    private boolean failed;
    static final Map<String, Integer> SEEN = new TreeMap<>();

    private RandomRunsTest(long seed) {
        dice = new Texts(seed);
        int sort = dice.next(20);
        size = sort < 10 ? 2 + dice.next(6) : sort < 17 ? 5 + dice.next(6) : sort < 19 ? 10 + dice.next(6) : 30;
        strength = new int[] {1, 2, 5, 100, 10000}[dice.next(5)];
        thin = size > 9 || dice.chance(50);
    }

    private static Map<String, Method> methodsOf(Class<?> type) {
        Map<String, Method> found = new TreeMap<>();
        for (Method m : type.getDeclaredMethods()) {
            if (!Modifier.isPrivate(m.getModifiers()) && !Modifier.isStatic(m.getModifiers()) && !m.isSynthetic()) {
                m.setAccessible(true);
                found.put(m.getName(), m);
            }
        }
        return found;
    }

    private static String answer(Method method, Object target, Object[] args) throws IllegalAccessException {
        try {
            Object got = method.invoke(target, args);
            return got instanceof Boolean b ? (b ? "1" : "0") : got.toString();
        } catch (InvocationTargetException e) {
            return "throws." + e.getCause().getClass().getSimpleName();
        }
    }

    private String call(String name, Object... args) {
        if (failed || calls >= 512) {
            return "";
        }
        calls++;
        try {
            String got = answer(FACE.get(name), real, args);
            String due = answer(PLAIN.get(name), model, args);
            story.add(name + Arrays.toString(args) + " -> " + got);
            SEEN.merge(name + (due.startsWith("throws") || due.length() < 3 && due.startsWith("-") ? " " + due : ""), 1, Integer::sum);
            if (!got.equals(due)) {
                story.add("    due is " + due);
                failed = true;
            }
            return got;
        } catch (IllegalAccessException e) {
            throw new IllegalStateException(e);
        }
    }

    private int anEntry() {
        return dice.chance(2) ? dice.next(40) - 4 : dice.next(Math.max(1, Math.min(size, 30)));
    }

    private int number(int low, int high) {
        return dice.chance(2) ? (dice.chance(50) ? low - 1 - dice.next(3) : high + 1 + dice.next(3)) : low + dice.next(high - low + 1);
    }

    private void addEntry() {
        int span = dice.chance(50) ? 30 : 199;
        call("entry", number(0, dice.chance(50) ? 2 : 7), number(0, dice.chance(60) ? 4 : 15), number(0, 7),
            number(0, span), dice.chance(40) ? -1 : number(-1, 4));
    }

    private int aWeight() {
        if (dice.chance(8)) {
            return dice.chance(80) ? Integer.MIN_VALUE : dice.chance(50) ? 10001 : -10001;
        }
        return dice.next(2 * strength + 1) - strength;
    }

    private void tellText() {
        String text = dice.rules();
        if (dice.chance(35)) {
            text = dice.spoilt(text);
        }
        int[] bytes = new int[Math.max(20, (text.length() + 19) / 20 * 20)];
        for (int i = 0; i < text.length(); i++) {
            bytes[i] = text.charAt(i);
        }
        for (int i = 0; i + 19 < bytes.length; i += 20) {
            Object[] five = new Object[5];
            for (int j = 0; j < 5; j++) {
                int p = i + 4 * j;
                five[j] = bytes[p] << 24 | bytes[p + 1] << 16 | bytes[p + 2] << 8 | bytes[p + 3];
            }
            call("feed", five);
        }
        call("rules", dice.chance(90) ? text.length() : number(0, bytes.length));
        call("fault");
    }

    private void weighOne() {
        int a = anEntry();
        int b = thin && dice.chance(80) ? a + 1 + dice.next(2) : anEntry();
        call("weigh", a, b, aWeight());
    }

    private void oneCall() {
        int sort = dice.next(100);
        if (sort < 3) {
            addEntry();
        } else if (sort < 5) {
            call("like", number(0, 15), number(0, 15), number(0, 100));
        } else if (sort < 7) {
            tellText();
        } else if (sort < 17) {
            weighOne();
        } else if (sort < 20) {
            int what = number(0, 2);
            call("law", what, what == 0 ? number(0, dice.chance(60) ? 4 : 30) : what == 1 ? number(0, 1) : number(-1, dice.chance(50) ? 20 : 199));
        } else if (sort < 24) {
            call("fix", anEntry(), anEntry(), dice.chance(50));
        } else if (sort < 46) {
            call(PAIR_CALLS[dice.next(PAIR_CALLS.length)], anEntry(), anEntry());
        } else if (sort < 58) {
            call(ENTRY_CALLS[dice.next(ENTRY_CALLS.length)], anEntry());
        } else if (sort < 70) {
            call(BARE_CALLS[dice.next(BARE_CALLS.length)]);
        } else {
            otherCall(sort);
        }
    }

    private void otherCall(int sort) {
        if (sort < 74) {
            call("better", number(0, 3));
        } else if (sort < 76) {
            call("grow", dice.chance(50) ? number(0, 100) : 1);
        } else if (sort < 79) {
            call("ring", number(0, 6), number(0, 3));
        } else if (sort < 83) {
            call("told", anEntry(), anEntry(), anEntry(), dice.chance(70) ? 1 : number(1, 1000000));
        } else if (sort < 86) {
            call("holds", anEntry(), anEntry(), number(0, dice.chance(50) ? 10 : 100));
        } else if (sort < 92) {
            call(sort < 89 ? "near" : "nearest", anEntry(), dice.chance(60) ? dice.next(3 * strength + 1) : number(0, 100000));
        } else if (sort < 95) {
            call(sort < 94 ? "stands" : "without", number(0, 7));
        } else {
            call("count", number(0, 9));
            call("of", anEntry(), number(0, 7));
        }
    }

    /** What has a limit comes near it, or to it. */
    private void toTheBrim() {
        for (int i = 0; i < 70; i++) {
            weighOne();
        }
        for (int i = 0; i < 26; i++) {
            int a = anEntry();
            call("fix", a, dice.chance(70) ? a + 1 + dice.next(4) : anEntry(), dice.chance(size > 12 ? 40 : 10));
        }
        for (int i = dice.next(8); i > 0; i--) {
            call("put", anEntry(), anEntry());
            call("mark");
        }
        for (int k = 0; k < 3; k++) {
            String a = call("ring", k, 0);
            String b = call("ring", k, 1);
            String c = call("ring", k, 2);
            for (int i = 0; i < 17 && !a.isEmpty() && !a.startsWith("-"); i++) {
                call("told", Integer.parseInt(b), Integer.parseInt(a), Integer.parseInt(c), 1 + dice.next(2));
            }
        }
    }

    private boolean passes(long seed) {
        if (dice.chance(40)) {
            tellText();
        }
        for (int i = 0; i < size; i++) {
            addEntry();
        }
        for (int i = dice.next(70); i > 0; i--) {
            weighOne();
        }
        boolean brim = size > 7 && dice.chance(25);
        if (brim) {
            toTheBrim();
        }
        int length = size > 11 ? 120 + (brim ? 200 : 0) : 300 + (brim ? 150 : 0);
        while (calls < length && !failed) {
            oneCall();
        }
        if (failed) {
            System.out.println("run of seed " + seed + ":");
            story.forEach(line -> System.out.println("    " + line));
        }
        return !failed;
    }

    public static void main(String[] args) {
        int runs = args.length > 0 ? Integer.parseInt(args[0]) : 300;
        long first = args.length > 1 ? Long.parseLong(args[1]) : 1;
        int wrong = 0;
        for (long seed = first; seed < first + runs; seed++) {
            if (!new RandomRunsTest(seed).passes(seed)) {
                wrong++;
                if (wrong == 3) {
                    break;
                }
            }
        }
        if (args.length > 2) {
            System.out.println(SEEN);
        }
        System.out.println(wrong == 0 ? "all made-up runs answer as the model" : "made-up runs answer otherwise than the model");
        if (wrong != 0) {
            System.exit(1);
        }
    }
}
