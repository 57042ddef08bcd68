import java.lang.reflect.InvocationTargetException;
import java.lang.reflect.Method;
import java.lang.reflect.Modifier;
import java.util.ArrayList;
import java.util.List;

/** Calls with any arguments in any state throw what they declare alone; the dearest calls come to an end, all of an object's. */
public final class HardTest {
    private static final int[] EDGES = {Integer.MIN_VALUE, Integer.MIN_VALUE + 1, -1000001, -10001, -2, -1, 0, 0, 0, 1, 1, 2, 3,
        5, 6, 7, 8, 15, 16, 29, 30, 31, 40, 60, 100, 101, 199, 200, 400, 401, 10000, 10001, 1000000, 1000001,
        Integer.MAX_VALUE - 1, Integer.MAX_VALUE};

    public static void main(String[] args) {
        for (int seed = 1; seed <= 300; seed++) {
            anyArguments(seed);
        }
        dearest(wheel(0), wheel(0), "wheel");
        dearest(wheel(9), wheel(9), "wheel of the last");
        dearest(knot(10), knot(10), "knot");
        dearest(knot(30), knot(30), "knot of all");
        dearest(threeKnots(), threeKnots(), "three knots");
        Due.close("HardTest");
    }

    private static List<Method> face() {
        List<Method> face = new ArrayList<>();
        for (Method m : SlipHeaps.class.getDeclaredMethods()) {
            if (Modifier.isPublic(m.getModifiers())) {
                face.add(m);
            }
        }
        face.sort((a, b) -> a.getName().compareTo(b.getName()));
        return face;
    }

    private static void anyArguments(int seed) {
        Texts dice = new Texts(7000 + seed);
        SlipHeaps x = Due.alike(dice.next(31));
        SlipHeaps twin = Due.alike(x.count(0));
        List<Method> face = face();
        for (int call = 31; call < 512; call++) {
            Method method = face.get(dice.next(face.size()));
            Object[] args = new Object[method.getParameterCount()];
            for (int i = 0; i < args.length; i++) {
                boolean flag = method.getParameterTypes()[i] == boolean.class;
                args[i] = flag ? (Object) dice.chance(50) : (Object) EDGES[dice.next(EDGES.length)];
            }
            String got = outcome(method, x, args);
            Due.is("a twin's " + method.getName() + java.util.Arrays.toString(args), () -> outcome(method, twin, args), got);
        }
    }

    private static String outcome(Method method, SlipHeaps x, Object[] args) {
        try {
            return String.valueOf(method.invoke(x, args));
        } catch (InvocationTargetException e) {
            for (Class<?> declared : method.getExceptionTypes()) {
                if (declared == e.getCause().getClass()) {
                    return declared.getSimpleName();
                }
            }
            Due.is(method.getName() + java.util.Arrays.toString(args), () -> e.getCause().toString(), "nothing else");
            return "undue";
        } catch (IllegalAccessException e) {
            throw new IllegalStateException(e);
        }
    }

    /** A hub that must be apart from all others, which may be heaped in any way. */
    private static SlipHeaps wheel(int hub) {
        SlipHeaps x = Due.alike(10);
        for (int i = 0; i < 10; i++) {
            if (i != hub) {
                x.weigh(hub, i, 1);
                x.fix(hub, i, false);
            }
        }
        return x;
    }

    private static SlipHeaps ofNames(int n) {
        SlipHeaps x = new SlipHeaps();
        for (int i = 0; i < n; i++) {
            x.entry(i % 8, i % 16, i % 8, i * 37 % 200, i % 7 - 1);
        }
        return x;
    }

    private static SlipHeaps knot(int n) {
        SlipHeaps x = ofNames(n);
        Due.rules(x, "for years-" + "1+".repeat(180) + "1+9*father-5*trade;");
        for (int i = 0; i < 16; i++) {
            x.like(i, (i * 5 + 3) % 16, i * 6);
        }
        Due.rules(x, "for years*7-years*years/30-" + "1-".repeat(150) + "200;");
        return x;
    }

    private static SlipHeaps threeKnots() {
        SlipHeaps x = Due.alike(30);
        Texts dice = new Texts(3);
        Due.rules(x, "never if 1=2;");
        for (int i = 0; i < 30; i++) {
            for (int j = i + 1; j < i + 3; j++) {
                if (j / 10 == i / 10) {
                    x.weigh(i, j, dice.next(41) - 15);
                }
            }
        }
        return x;
    }

    private static void dearest(SlipHeaps x, SlipHeaps twin, String what) {
        Due.is(what + " and its twin", () -> sumOfDearest(x), sumOfDearest(twin));
    }

    private static long sumOfDearest(SlipHeaps x) {
        long sum = 0;
        int last = x.count(0) - 1;
        for (int i = 0; i < 40; i++) {
            sum += x.near(0, 100000) + x.near(last, i) + x.edge(0, 1 + i % last) + x.asked(last) + x.stands(i % 8);
            sum += x.grow(100) + x.better(0) + x.bound() + x.rings() + x.ring(i, 3) + x.like(0, 1, i);
        }
        return sum;
    }
}
