import java.util.ArrayList;
import java.util.List;

/**
 * Behind a call that is refused, or that only asks, all is as it was: an object that got the call and its twin that did
 * not are then asked, and changed, in the same way, and have to answer alike.
 */
public final class StayCasesTest {
    private interface Make {
        SlipHeaps state();
    }

    private interface Probe {
        void read(SlipHeaps x, List<String> answers);
    }

    private static final Probe[] PROBES = {StayCasesTest::traits, StayCasesTest::weights, StayCasesTest::tellings, StayCasesTest::marks,
        StayCasesTest::fixedAndLaws, StayCasesTest::tape, StayCasesTest::parts, StayCasesTest::changes};

    public static void main(String[] args) {
        statesAreAsMeant();
        entriesAndTexts(StayCasesTest::full);
        tellingPairs(StayCasesTest::full);
        moving(StayCasesTest::full);
        ringsAndMarks();
        asking(StayCasesTest::full);
        asking(StayCasesTest::plain);
        ofPlain();
        ofNone();
        taking();
        Due.close("StayCasesTest");
    }

    // ---- states

    /** All that has a limit is at its limit; HAND is not LAWFUL, one PART is too big, and one has no BEST. */
    private static SlipHeaps full() {
        SlipHeaps x = new SlipHeaps();
        for (int i = 0; i < 30; i++) {
            x.entry(i % 8, i % 16, i % 5, i * 7 % 200, i % 4 - 1);
        }
        x.like(0, 1, 60);
        x.like(2, 9, 80);
        Due.rules(x, "for 1 if like=60;" + "against trade;".repeat(14) + "look if like>70;");
        Due.rules(x, "for 1;  for 10000;");
        Due.feed(x, "for years;" + " ".repeat(380) + "against 1;");
        for (int i = 0; i < 10; i++) {
            x.weigh(i, i + 1, 90);
            x.weigh(i, 12, i % 3 == 0 ? SlipHeaps.VOID : i - 60);
            x.weigh(12 + i, 13 + i, i < 3 ? 9 : i < 9 ? -9 : SlipHeaps.VOID);
            x.weigh(i, i + 2, -80);
            x.weigh(i, 29, -5 - i);
            x.weigh(i, 28, 0);
        }
        for (int i = 0; i < 10; i++) {
            x.fix(i, 20 + i % 5, false);
            x.fix(17 + i, 18 + i, i % 2 == 0);
        }
        x.law(0, 9);
        x.law(1, 1);
        x.law(2, 77);
        for (int i = 0; i < 6; i++) {
            x.join(i, 20 + i);
            x.mark();
        }
        x.join(0, 8);
        for (int i = 0; i < 40; i++) {
            x.told(i % 7, i % 7 + 1, i % 7 + 2, 2);
        }
        return x;
    }

    /** Nothing is at its limit, and HAND is LAWFUL. */
    private static SlipHeaps plain() {
        SlipHeaps x = new SlipHeaps();
        for (int i = 0; i < 5; i++) {
            x.entry(i % 2, i, 0, 10 * i, -1);
        }
        Due.rules(x, "for like;against 3 if years>20;look if years<40;");
        x.like(0, 1, 60);
        x.like(1, 2, 50);
        x.like(0, 2, 2);
        x.weigh(0, 2, -40);
        x.weigh(3, 4, SlipHeaps.VOID);
        x.fix(0, 1, true);
        x.fix(1, 3, false);
        x.join(0, 1);
        x.mark();
        x.join(3, 2);
        x.told(0, 1, 2, 7);
        Due.feed(x, "against 4;");
        return x;
    }

    private static void statesAreAsMeant() {
        int[] due = {30, 16, 60, 20, 23, -1, 40, 6, 400, -1};
        for (int what : new int[] {0, 1, 2, 3, 4, 6, 7, 8}) {
            Due.is("full: count(" + what + ")", () -> full().count(what), due[what]);
        }
        Due.is("full: fault", () -> full().fault(), 12);
        Due.is("full: not lawful", () -> full().barred() >= 0, 1);
        Due.is("full: one part has no best", () -> full().all(), -1);
        Due.is("full: one part is big", () -> full().best(0), -2);
        Due.is("full: some are passed", () -> full().count(9) > 0, 1);
        Due.is("plain: lawful", () -> plain().barred(), -1);
        Due.is("plain: there is a better one", () -> plain().better(0) >= 0, 1);
        Due.is("plain: a best of all", () -> plain().all() >= 0, 1);
        Due.is("plain: a told ring", () -> plain().count(6), 1);
    }

    // ---- what is asked behind a call

    private static void add(List<String> answers, Due.Call call) {
        answers.add(Due.answer(call));
    }

    private static void traits(SlipHeaps x, List<String> answers) {
        for (int i = 0; i < 10; i++) {
            int what = i;
            add(answers, () -> x.count(what));
        }
        add(answers, x::fault);
        add(answers, x::cost);
        add(answers, x::barred);
        for (int i = 0; i < x.count(0); i++) {
            for (int w = 0; w < 8; w++) {
                int entry = i;
                int what = w;
                add(answers, () -> x.of(entry, what));
            }
        }
        add(answers, () -> x.entry(7, 15, 7, 199, 15));
    }

    private static void weights(SlipHeaps x, List<String> answers) {
        int n = x.count(0);
        for (int i = 0; i < n; i++) {
            for (int j = i + 1; j < n; j += i < 10 ? 1 : 5) {
                int a = i;
                int b = j;
                add(answers, () -> x.weight(a, b));
            }
        }
        for (int i = 0; i < 10; i++) {
            int a = i;
            add(answers, () -> x.why(a, 29 - a));
            add(answers, () -> x.forget(a, a + 1));
            add(answers, () -> x.weigh(a, 27 - a, 3));
        }
        add(answers, () -> x.weight(0, 1));
    }

    private static void tellings(SlipHeaps x, List<String> answers) {
        add(answers, x::bound);
        add(answers, x::rings);
        for (int k = 0; k < 12; k++) {
            for (int w = 0; w < 4; w++) {
                int n = k;
                int what = w;
                add(answers, () -> x.ring(n, what));
            }
        }
        for (int i = 0; i < 10; i++) {
            int a = i;
            for (int amount = 1; amount < 100; amount *= 3) {
                int v = amount;
                add(answers, () -> x.told(a, a + 1, a + 2, v));
            }
        }
        for (int i = 0; i < 16; i++) {
            for (int j = i + 1; j < 16; j += 2) {
                int a = i;
                int b = j;
                add(answers, () -> x.like(a, b, 1));
            }
        }
    }

    private static void marks(SlipHeaps x, List<String> answers) {
        for (int i = 0; i < 8; i++) {
            add(answers, () -> HandCases.heaps(x));
            add(answers, x::back);
        }
        add(answers, x::mark);
    }

    private static void fixedAndLaws(SlipHeaps x, List<String> answers) {
        add(answers, () -> x.law(0, 0));
        add(answers, () -> x.law(1, 0));
        add(answers, () -> x.law(2, -1));
        add(answers, x::barred);
        for (int i = 0; i < 29; i++) {
            int a = i;
            add(answers, () -> x.loose(a, a + 1));
            add(answers, x::barred);
        }
        for (int i = 0; i < 10; i++) {
            int a = i;
            add(answers, () -> x.loose(a, 20 + a % 5));
            add(answers, () -> x.loose(a, a + 2));
        }
        add(answers, () -> x.count(3));
        add(answers, x::barred);
        add(answers, () -> x.fix(28, 29, true));
    }

    private static void tape(SlipHeaps x, List<String> answers) {
        add(answers, () -> x.rules(x.count(8)));
        add(answers, x::fault);
        for (int i = 0; i < 29; i++) {
            int a = i;
            add(answers, () -> x.weight(a, a + 1));
            add(answers, () -> x.why(a, 29 - a));
        }
        add(answers, x::cost);
    }

    private static void parts(SlipHeaps x, List<String> answers) {
        for (int i = 0; i < x.count(0); i++) {
            int e = i;
            add(answers, () -> x.best(e));
            add(answers, () -> x.many(e));
            add(answers, () -> x.first(e));
            add(answers, () -> x.asked(e));
            add(answers, () -> x.near(e, 3));
            add(answers, () -> x.nearest(e, 50));
        }
        add(answers, x::all);
        add(answers, () -> x.without(1));
        add(answers, () -> x.stands(0));
        add(answers, () -> x.edge(0, 1));
        add(answers, () -> x.holds(0, 1, 5));
    }

    private static void changes(SlipHeaps x, List<String> answers) {
        for (int w = 0; w < 4; w++) {
            int what = w;
            add(answers, () -> x.better(what));
        }
        add(answers, () -> x.grow(2));
        add(answers, () -> HandCases.heaps(x));
        add(answers, x::take);
        add(answers, () -> HandCases.heaps(x));
        add(answers, () -> x.put(1, 0));
        add(answers, () -> x.swap(2, 0));
        add(answers, () -> x.join(3, 1));
        add(answers, () -> x.alone(0));
        add(answers, () -> HandCases.heaps(x));
    }

    private interface Call {
        Object on(SlipHeaps x);
    }

    private static void stays(Make make, String what, Object due, Call call) {
        Due.is(what, () -> call.on(make.state()), due);
        for (int i = 0; i < PROBES.length; i++) {
            SlipHeaps x = make.state();
            SlipHeaps twin = make.state();
            Due.answer(() -> call.on(x));
            List<String> got = new ArrayList<>();
            List<String> asBefore = new ArrayList<>();
            PROBES[i].read(x, got);
            PROBES[i].read(twin, asBefore);
            Due.is("behind " + what + ", probe " + i, () -> got, asBefore);
        }
    }

    private static void asks(Make make, String what, Call call) {
        SlipHeaps twin = make.state();
        stays(make, what, Due.answer(() -> call.on(twin)), call);
    }

    // ---- the calls

    private static void entriesAndTexts(Make make) {
        stays(make, "a 31st entry", -1, x -> x.entry(0, 0, 0, 0, -1));
        stays(make, "entry of book 8", Due.ILLEGAL, x -> x.entry(8, 0, 0, 0, -1));
        stays(make, "entry of father 16", Due.ILLEGAL, x -> x.entry(0, 0, 0, 0, 16));
        stays(make, "like of one name", -1, x -> x.like(1, 1, 3));
        stays(make, "like of name 16", Due.ILLEGAL, x -> x.like(1, 16, 3));
        stays(make, "like 101", Due.ILLEGAL, x -> x.like(0, 1, 101));
        stays(make, "like -1", Due.ILLEGAL, x -> x.like(0, 1, -1));
        stays(make, "feed beyond 400", -1, x -> x.feed(-1, -1, -1, -1, -1));
        stays(make, "rules(401)", Due.ILLEGAL, x -> x.rules(401));
        stays(make, "rules(-1)", Due.ILLEGAL, x -> x.rules(-1));
    }

    private static void tellingPairs(Make make) {
        stays(make, "a 61st told", -1, x -> x.weigh(26, 27, 5));
        stays(make, "a 61st never", -1, x -> x.weigh(26, 27, SlipHeaps.VOID));
        stays(make, "weigh 10001", Due.ILLEGAL, x -> x.weigh(0, 1, 10001));
        stays(make, "weigh -10001", Due.ILLEGAL, x -> x.weigh(0, 1, -10001));
        stays(make, "weigh of one", Due.ILLEGAL, x -> x.weigh(1, 1, 5));
        stays(make, "weigh of none", Due.NO_SUCH, x -> x.weigh(0, 30, 5));
        stays(make, "forget of nothing", 0, x -> x.forget(26, 27));
        stays(make, "forget of one", Due.ILLEGAL, x -> x.forget(1, 1));
        stays(make, "forget of none", Due.NO_SUCH, x -> x.forget(30, 0));
        stays(make, "law(0, 31)", Due.ILLEGAL, x -> x.law(0, 31));
        stays(make, "law(1, 2)", Due.ILLEGAL, x -> x.law(1, 2));
        stays(make, "law(2, 200)", Due.ILLEGAL, x -> x.law(2, 200));
        stays(make, "law(2, -2)", Due.ILLEGAL, x -> x.law(2, -2));
        stays(make, "law(3, 0)", Due.ILLEGAL, x -> x.law(3, 0));
        stays(make, "a 21st fixed together", -1, x -> x.fix(15, 16, true));
        stays(make, "a 21st fixed apart", -1, x -> x.fix(0, 8, false));
        stays(make, "fix of one", Due.ILLEGAL, x -> x.fix(1, 1, true));
        stays(make, "fix of none", Due.NO_SUCH, x -> x.fix(1, 30, true));
        stays(make, "loose of one that is not", 0, x -> x.loose(15, 16));
        stays(make, "loose of one", Due.ILLEGAL, x -> x.loose(1, 1));
        stays(make, "loose of none", Due.NO_SUCH, x -> x.loose(-1, 0));
    }

    private static void moving(Make make) {
        stays(make, "put to itself", Due.ILLEGAL, x -> x.put(8, 8));
        stays(make, "put of none", Due.NO_SUCH, x -> x.put(30, 8));
        stays(make, "put to none", Due.NO_SUCH, x -> x.put(8, 30));
        stays(make, "put where it is", 0, x -> x.put(8, 20));
        stays(make, "alone that is", 0, x -> x.alone(29));
        stays(make, "alone of none", Due.NO_SUCH, x -> x.alone(30));
        stays(make, "join of one heap", -1, x -> x.join(8, 20));
        stays(make, "join of one entry", -1, x -> x.join(8, 8));
        stays(make, "join of none", Due.NO_SUCH, x -> x.join(8, 30));
        stays(make, "swap in one heap", -1, x -> x.swap(8, 20));
        stays(make, "swap of one entry", -1, x -> x.swap(29, 29));
        stays(make, "swap of none", Due.NO_SUCH, x -> x.swap(-1, 8));
        stays(make, "better(4)", Due.ILLEGAL, x -> x.better(4));
        stays(make, "grow(101)", Due.ILLEGAL, x -> x.grow(101));
        stays(make, "grow(-1)", Due.ILLEGAL, x -> x.grow(-1));
        stays(make, "grow of an unlawful hand", -1, x -> x.grow(100));
        stays(make, "take of one without", -1, SlipHeaps::take);
        stays(make, "a 7th mark", -1, SlipHeaps::mark);
    }

    private static void ringsAndMarks() {
        Make make = StayCasesTest::full;
        stays(make, "ring(0, 4)", Due.ILLEGAL, x -> x.ring(0, 4));
        stays(make, "told of no ring", -1, x -> x.told(0, 1, 29, 1));
        stays(make, "told of more than there is", -2, x -> x.told(0, 1, 2, 80));
        stays(make, "a 41st told", -3, x -> x.told(0, 1, 2, 1));
        stays(make, "told of 0", Due.ILLEGAL, x -> x.told(0, 1, 2, 0));
        stays(make, "told of 1,000,001", Due.ILLEGAL, x -> x.told(0, 1, 2, 1000001));
        stays(make, "told of one twice", Due.ILLEGAL, x -> x.told(0, 1, 1, 1));
        stays(make, "told of none", Due.NO_SUCH, x -> x.told(0, 1, 30, 1));
    }

    /** What only asks leaves all as it is, whatever it answers. */
    private static void asking(Make make) {
        asks(make, "of 5", x -> x.of(2, 5));
        asks(make, "of 7", x -> x.of(2, 7));
        asks(make, "of 8", x -> x.of(2, 8));
        asks(make, "of none", x -> x.of(30, 0));
        asks(make, "fault", SlipHeaps::fault);
        asks(make, "weight", x -> x.weight(0, 3));
        asks(make, "weight of none", x -> x.weight(0, 30));
        asks(make, "why", x -> x.why(0, 3));
        asks(make, "why of one", x -> x.why(3, 3));
        asks(make, "cost", SlipHeaps::cost);
        asks(make, "barred", SlipHeaps::barred);
        asks(make, "better", x -> x.better(0));
        asks(make, "grow by none", x -> x.grow(0));
        asks(make, "bound", SlipHeaps::bound);
        asks(make, "ring", x -> x.ring(0, 3));
        asks(make, "rings", SlipHeaps::rings);
        for (int i = 0; i < 5; i += 2) {
            int e = i;
            asks(make, "best", x -> x.best(e));
            asks(make, "many", x -> x.many(e));
            asks(make, "first", x -> x.first(e));
            asks(make, "asked", x -> x.asked(e));
            asks(make, "near", x -> x.near(e, 30));
            asks(make, "nearest", x -> x.nearest(e, 30));
            asks(make, "without", x -> x.without(e));
            asks(make, "stands", x -> x.stands(e));
        }
        asks(make, "all", SlipHeaps::all);
        asks(make, "always", x -> x.always(1, 2));
        asks(make, "edge", x -> x.edge(1, 2));
        asks(make, "edge of fixed", x -> x.edge(0, 1));
        asks(make, "holds", x -> x.holds(1, 2, 3));
        asks(make, "holds beyond", x -> x.holds(1, 2, 101));
        asks(make, "near beyond", x -> x.near(1, 100001));
        asks(make, "without 8", x -> x.without(8));
        asks(make, "stands -1", x -> x.stands(-1));
        asks(make, "count", x -> x.count(9));
        asks(make, "count of others", x -> x.count(10));
    }

    private static void ofPlain() {
        Make make = StayCasesTest::plain;
        stays(make, "fix of one fixed together", 0, x -> x.fix(1, 0, false));
        stays(make, "fix of one fixed apart", 0, x -> x.fix(3, 1, true));
        stays(make, "rules of more than the tape", Due.ILLEGAL, x -> x.rules(21));
        stays(make, "put where it is", 2, x -> x.put(2, 3));
        stays(make, "law as it is", 0, x -> x.law(0, 0));
        stays(make, "told of more than there is", -2, x -> x.told(0, 1, 2, 34));
        stays(make, "told of no ring", -1, x -> x.told(0, 1, 3, 1));
        SlipHeaps x = plain();
        SlipHeaps twin = plain();
        Due.is("a fault", () -> x.rules(20), -9);
        Due.is("another fault", () -> twin.rules(19), -9);
        Due.is("the told ring stays behind it", () -> x.count(6) * 100 + x.told(0, 1, 2, 34), 98);
        List<String> got = new ArrayList<>();
        List<String> asBefore = new ArrayList<>();
        weights(x, got);
        weights(plain(), asBefore);
        Due.is("the rules stay behind it", () -> got, asBefore);
    }

    private static void ofNone() {
        Make make = SlipHeaps::new;
        stays(make, "back without a mark", -1, SlipHeaps::back);
        stays(make, "take of none", 1, SlipHeaps::take);
        stays(make, "grow of none", 0, x -> x.grow(100));
        stays(make, "rules(1) of none", Due.ILLEGAL, x -> x.rules(1));
        stays(make, "rules(0) of none", 0, x -> x.rules(0));
        stays(make, "of none", Due.NO_SUCH, x -> x.of(0, 0));
        stays(make, "entry of year 200", Due.ILLEGAL, x -> x.entry(0, 0, 0, 200, -1));
        stays(make, "like of one", -1, x -> x.like(15, 15, 100));
    }

    private static void taking() {
        Make big = () -> {
            SlipHeaps x = PartCases.chain(12);
            x.join(3, 7);
            x.mark();
            x.join(0, 11);
            return x;
        };
        stays(big, "take of 12", -2, SlipHeaps::take);
        Make torn = () -> {
            SlipHeaps x = PartCases.torn();
            x.join(2, 1);
            return x;
        };
        stays(torn, "take of a torn one", -1, SlipHeaps::take);
        stays(torn, "grow of it", -1, x -> x.grow(3));
        Make end = () -> {
            SlipHeaps x = PartCases.chain(5);
            x.take();
            return x;
        };
        stays(end, "grow at the end", 0, x -> x.grow(100));
        stays(end, "take again", 1, SlipHeaps::take);
    }
}
