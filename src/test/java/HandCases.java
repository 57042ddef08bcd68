/** Cases of HEAPINGS, COST, LAWS, HAND and its CHANGES, and of promises 12 to 22, 40 and 41. */
final class HandCases {
    private static final int[] FAR = {Integer.MIN_VALUE, Integer.MAX_VALUE};

    private HandCases() {
    }

    static void run() {
        heapsAndCost();
        laws();
        fixed();
        lawful();
        barredOnes();
        changes();
        bestChange();
        firstJoining();
        firstChanging();
        law();
        fix();
        put();
        joinAndSwap();
        costAndBarred();
        better();
        grow();
        marks();
    }

    static String heaps(SlipHeaps x) {
        StringBuilder s = new StringBuilder();
        for (int i = 0; i < x.count(0); i++) {
            s.append(x.of(i, 5)).append(' ');
        }
        return s.toString().trim();
    }

    /** ENTRIES alike, in HEAPS as told: each joins the one that stands at its place. */
    private static SlipHeaps heaped(int... with) {
        SlipHeaps x = Due.alike(with.length);
        for (int i = 0; i < with.length; i++) {
            x.join(i, with[i]);
        }
        return x;
    }

    private static void better(SlipHeaps x, long cost, long sort, long one, long two) {
        Due.is("better: cost", () -> x.better(0), cost);
        Due.is("better: sort", () -> x.better(1), sort);
        Due.is("better: one", () -> x.better(2), one);
        Due.is("better: two", () -> x.better(3), two);
    }

    private static void noneBetter(SlipHeaps x) {
        better(x, Due.VOID, Due.VOID, Due.VOID, Due.VOID);
    }

    private static void heapsAndCost() {
        Cases.says(Cases.TERMS, "A HEAPING has each ENTRY in one HEAP; a HEAP has the number of its least ENTRY.");
        SlipHeaps x = heaped(0, 1, 0, 1, 0);
        Due.is("two heaps", () -> heaps(x), "0 1 0 1 0");
        x.alone(0);
        Due.is("the least one left", () -> heaps(x), "0 1 2 1 2");
        x.put(0, 3);
        Due.is("a lesser one came", () -> heaps(x), "0 0 2 0 2");

        Cases.says(Cases.TERMS, "COST: of all PAIRS apart WEIGHTS above 0, of all together amounts of those below 0");
        SlipHeaps y = Due.alike(3);
        y.weigh(0, 1, 1);
        y.weigh(1, 2, -1);
        Due.is("1 apart, -1 apart", y::cost, 1);
        y.join(1, 2);
        Due.is("1 apart, -1 together", y::cost, 2);
        y.join(0, 1);
        Due.is("1 together, -1 together", y::cost, 1);
        y.alone(2);
        Due.is("1 together, -1 apart", y::cost, 0);
        y.weigh(0, 1, 0);
        Due.is("0 together", y::cost, 0);
        y.alone(0);
        Due.is("0 apart", y::cost, 0);
        SlipHeaps big = Due.alike(30);
        Due.rules(big, "for 9999;for 9999;");
        Due.is("all 435 pairs apart", big::cost, 4350000);
        Due.rules(big, "against 9999;against 9999;");
        Due.is("none together", big::cost, 0);
        for (int i = 1; i < 30; i++) {
            big.join(0, i);
        }
        Due.is("all together", big::cost, 4350000);

        Cases.says(Cases.TERMS, "(what is NEVER has no WEIGHT and costs nothing).");
        SlipHeaps z = Due.alike(2);
        z.weigh(0, 1, SlipHeaps.VOID);
        Due.is("never apart", z::cost, 0);
        z.join(0, 1);
        Due.is("never together", z::cost, 0);
        z.forget(0, 1);
        Due.rules(z, "against 5;never if 1=1;");
        Due.is("never by rules, whatever it would weigh", z::cost, 0);
    }

    private static void laws() {
        Cases.says(Cases.TERMS, "LAWS: MOST in a HEAP (0: as many as there are; at first)");
        SlipHeaps x = Due.alike(30);
        for (int i = 1; i < 30; i++) {
            x.join(0, i);
        }
        Due.is("at first", x::barred, -1);
        Due.is("it was 0", () -> x.law(0, 30), 0);
        Due.is("30", x::barred, -1);
        x.law(0, 29);
        Due.is("29", x::barred, 29);
        x.law(0, 1);
        Due.is("1", x::barred, 1);
        x.law(0, 0);
        Due.is("0 again", x::barred, -1);
        SlipHeaps p = Due.alike(3);
        p.weigh(0, 1, 2);
        p.weigh(1, 2, 2);
        p.law(0, 3);
        Due.is("best of 3", () -> p.best(0), 0);
        p.law(0, 2);
        Due.is("best of 2", () -> p.best(0), 2);
        p.law(0, 1);
        Due.is("best of 1", () -> p.best(0), 4);

        Cases.says(Cases.TERMS, "; ONE BOOK (no two of a BOOK in a HEAP; not at first)");
        SlipHeaps b = new SlipHeaps();
        for (int book : new int[] {0, 7, 0}) {
            b.entry(book, 0, 0, 0, -1);
        }
        b.join(0, 2);
        Due.is("not at first", b::barred, -1);
        Due.is("it was not", () -> b.law(1, 1), 0);
        Due.is("two of book 0", b::barred, 2);
        b.alone(2);
        b.join(0, 1);
        Due.is("of 0 and 7", b::barred, -1);
        b.weigh(0, 2, 5);
        Due.is("best", () -> b.best(0), 5);
        b.law(1, 0);
        Due.is("best without it", () -> b.best(0), 0);

        Cases.says(Cases.TERMS, "; SPAN (YEARS of no two in a HEAP further apart; NONE: no such law; at first).");
        SlipHeaps s = new SlipHeaps();
        for (int year : new int[] {199, 0, 199, 20}) {
            s.entry(0, 0, 0, year, -1);
        }
        s.join(0, 1);
        Due.is("no law at first", s::barred, -1);
        Due.is("it was none", () -> s.law(2, 199), -1);
        Due.is("199", s::barred, -1);
        s.law(2, 198);
        Due.is("198", s::barred, 1);
        s.law(2, 0);
        Due.is("0", s::barred, 1);
        s.alone(1);
        s.join(0, 2);
        Due.is("0 of one year", s::barred, -1);
        s.join(1, 3);
        s.law(2, 20);
        Due.is("as far as that", s::barred, -1);
        s.law(2, 19);
        Due.is("further", s::barred, 3);
        s.law(2, -1);
        Due.is("no law again", s::barred, -1);
        s.weigh(1, 3, 4);
        s.law(2, 20);
        Due.is("best within", () -> s.best(1), 0);
        s.law(2, 19);
        Due.is("best beyond", () -> s.best(1), 4);
    }

    private static void fixed() {
        Cases.says(Cases.TERMS, "FIXED are PAIRS together, or apart, 20 at most at one time.");
        SlipHeaps x = Due.alike(30);
        for (int i = 0; i < 20; i++) {
            int n = i;
            Due.is("fix " + i, () -> x.fix(n + 1, n, n % 2 == 0), i + 1);
        }
        Due.is("a 21st", () -> x.fix(28, 29, true), -1);
        Due.is("apart", () -> x.fix(28, 29, false), -1);
        Due.is("20 are there", () -> x.count(3), 20);
        Due.is("it is not fixed", () -> x.loose(28, 29), 0);
        Due.is("one is loose", () -> x.loose(3, 4), 1);
        Due.is("room for one", () -> x.fix(28, 29, true), 20);
        Due.is("not for two", () -> x.fix(27, 28, true), -1);
    }

    private static void lawful() {
        Cases.says(Cases.TERMS, "LAWFUL is a HEAPING, if no two that are NEVER or FIXED apart are together");
        SlipHeaps x = heaped(0, 0, 2);
        Due.is("lawful", x::barred, -1);
        x.weigh(0, 1, SlipHeaps.VOID);
        Due.is("never", x::barred, 1);
        x.weigh(0, 1, -10000);
        Due.is("-10,000", x::barred, -1);
        x.fix(0, 1, false);
        Due.is("fixed apart", x::barred, 1);
        x.alone(1);
        Due.is("is apart", x::barred, -1);
        x.weigh(0, 1, SlipHeaps.VOID);
        Due.is("never is apart", x::barred, -1);

        Cases.says(Cases.TERMS, ", no two FIXED together apart");
        x.fix(1, 2, true);
        Due.is("apart", x::barred, 2);
        Due.is("so none is better", () -> x.better(0), Due.VOID);
        x.join(1, 2);
        Due.is("together", x::barred, -1);

        Cases.says(Cases.TERMS, ", and HEAPS keep the LAWS.");
        x.law(0, 1);
        Due.is("most", x::barred, 2);
        x.law(0, 2);
        x.law(1, 1);
        Due.is("one book", x::barred, 2);
        x.law(1, 0);
        x.law(2, 0);
        Due.is("span", x::barred, -1);
    }

    private static void barredOnes() {
        Cases.says(Cases.TERMS, "BARRED is the least ENTRY that with lesser ones (of its HEAP, or FIXED with it) is against that");
        SlipHeaps x = heaped(0, 1, 2, 1, 2, 0);
        x.weigh(0, 5, SlipHeaps.VOID);
        Due.is("0 and 5", x::barred, 5);
        x.weigh(2, 4, SlipHeaps.VOID);
        Due.is("2 and 4", x::barred, 4);
        x.fix(1, 3, false);
        Due.is("1 and 3", x::barred, 3);
        x.fix(2, 0, true);
        Due.is("0 and 2", x::barred, 2);
        x.fix(0, 1, true);
        Due.is("0 and 1", x::barred, 1);
        Due.is("0 never is", () -> {
            x.fix(0, 5, false);
            x.fix(0, 3, true);
            x.law(0, 1);
            return x.barred();
        }, 1);

        Cases.says(Cases.TERMS, "(MOST: it is the one too many, by numbers).");
        SlipHeaps y = heaped(0, 1, 1, 0, 1, 0, 0);
        y.law(0, 3);
        Due.is("of 0 3 5 6 and 1 2 4", y::barred, 6);
        y.law(0, 2);
        Due.is("two at most", y::barred, 4);
        y.law(0, 1);
        Due.is("one at most", y::barred, 2);
        y.weigh(0, 3, SlipHeaps.VOID);
        y.law(0, 2);
        Due.is("a lesser one that is never", y::barred, 3);
    }

    private static void changes() {
        Cases.says(Cases.TERMS, "HAND is a HEAPING that is kept: a new ENTRY is alone in it.");
        SlipHeaps x = heaped(0, 0, 0);
        Due.is("a new one", () -> x.entry(0, 0, 0, 0, -1) * 10 + x.of(3, 5), 33);
        x.weigh(0, 3, 5);
        x.best(0);
        x.better(0);
        Due.is("kept by what asks", () -> heaps(x), "0 0 0 3");

        Cases.says(Cases.TERMS, "CHANGES of it: an ENTRY goes to the HEAP of another one, or alone");
        SlipHeaps y = heaped(0, 0, 2);
        y.weigh(0, 2, 5);
        better(y, 0, 0, 0, 2);
        SlipHeaps lone = heaped(0, 0);
        lone.weigh(0, 1, -5);
        better(lone, 0, 0, 0, -1);

        Cases.says(Cases.TERMS, "; two HEAPS become one");
        SlipHeaps z = heaped(0, 0, 2, 2);
        z.weigh(0, 1, 10);
        z.weigh(2, 3, 10);
        z.weigh(0, 2, 1);
        better(z, 0, 1, 0, 2);

        Cases.says(Cases.TERMS, "; two ENTRIES of unlike HEAPS change places.");
        z.law(0, 2);
        noneBetter(z);
        z.weigh(0, 1, 0);
        z.weigh(2, 3, 0);
        better(z, 0, 2, 0, 3);
    }

    private static void bestChange() {
        Cases.says(Cases.TERMS, "BETTER is a CHANGE of a LAWFUL HAND behind which it is LAWFUL and costs less");
        SlipHeaps x = heaped(0, 1, 2);
        noneBetter(x);
        x.weigh(0, 1, 1);
        better(x, 0, 0, 0, 1);
        x.weigh(0, 1, SlipHeaps.VOID);
        noneBetter(x);
        x.weigh(0, 1, 1);
        x.fix(0, 1, false);
        noneBetter(x);
        x.loose(0, 1);
        x.law(0, 1);
        noneBetter(x);
        x.law(0, 2);
        better(x, 0, 0, 0, 1);
        x.fix(0, 2, true);
        noneBetter(x);
        x.join(0, 2);
        noneBetter(x);
        x.law(0, 3);
        better(x, 0, 0, 1, 0);
        x.weigh(1, 2, -1);
        noneBetter(x);
        SlipHeaps then = heaped(0, 1, 1);
        then.weigh(0, 1, 5);
        then.weigh(0, 2, SlipHeaps.VOID);
        better(then, 0, 0, 1, 0);
        then.alone(2);
        better(then, 0, 0, 0, 1);

        Cases.says(Cases.TERMS, "; the BEST CHANGE is the one behind which COST is least");
        SlipHeaps y = Due.alike(6);
        y.weigh(0, 1, 3);
        y.weigh(2, 3, 4);
        y.weigh(4, 5, 5);
        better(y, 7, 0, 4, 5);
        y.weigh(4, 5, 4);
        better(y, 7, 0, 2, 3);

        Cases.says(Cases.TERMS, "; of these the first: ENTRY by ENTRY (0: going) to the HEAP of each least ENTRY of a HEAP, then alone");
        y.weigh(0, 1, 4);
        better(y, 8, 0, 0, 1);
        y.weigh(0, 5, 4);
        better(y, 12, 0, 0, 1);
        y.weigh(0, 1, 0);
        better(y, 8, 0, 0, 5);
        SlipHeaps z = heaped(0, 1, 1, 0, 4);
        z.weigh(0, 3, -5);
        better(z, 0, 0, 0, 1);
        z.fix(0, 1, false);
        better(z, 0, 0, 0, 4);
        z.fix(0, 4, false);
        better(z, 0, 0, 0, -1);
        z.fix(0, 2, true);
        Due.is("not lawful", () -> z.better(1), Due.VOID);

        Cases.says(Cases.TERMS, "END is a HAND for which there is none.");
        SlipHeaps e = heaped(0, 0);
        e.weigh(0, 1, 5);
        noneBetter(e);
        Due.is("none is made", () -> e.grow(100), 0);
        noneBetter(new SlipHeaps());
        noneBetter(Due.alike(1));
    }

    private static void firstJoining() {
        Cases.says(Cases.TERMS, "; then (1: joining) by the lesser HEAP, then the other");
        SlipHeaps two = Due.alike(2);
        two.weigh(0, 1, 5);
        Due.is("going is ahead of joining", () -> two.better(1), 0);
        SlipHeaps x = heaped(0, 0, 2, 2, 4, 4);
        int[][] told = {{0, 1, 100}, {2, 3, 100}, {4, 5, 100}, {0, 2, 3}, {1, 3, 3}, {0, 4, 3}, {1, 5, 3}, {2, 4, 3}, {3, 5, 3}};
        for (int[] t : told) {
            x.weigh(t[0], t[1], t[2]);
        }
        better(x, 12, 1, 0, 2);
        x.weigh(0, 2, 2);
        better(x, 11, 1, 0, 4);
        x.weigh(0, 4, 2);
        better(x, 10, 1, 2, 4);
        x.law(0, 4);
        better(x, 10, 1, 2, 4);
        x.law(0, 3);
        noneBetter(x);
    }

    private static void firstChanging() {
        Cases.says(Cases.TERMS, "; then (2: changing places) by the lesser ENTRY, then the other.");
        SlipHeaps x = heaped(0, 0, 2, 2);
        x.law(0, 2);
        x.weigh(0, 3, 5);
        better(x, 0, 2, 0, 2);
        x.weigh(0, 3, 0);
        x.weigh(0, 2, 5);
        better(x, 0, 2, 0, 3);
        SlipHeaps y = heaped(0, 1, 1, 3, 3);
        y.law(0, 2);
        y.fix(0, 2, false);
        y.fix(0, 4, false);
        y.weigh(1, 3, 5);
        better(y, 0, 2, 1, 4);
        y.weigh(1, 3, 0);
        y.weigh(2, 3, 5);
        better(y, 0, 2, 1, 3);
        y.weigh(1, 4, 5);
        better(y, 0, 2, 1, 3);
        y.weigh(1, 4, 0);
        y.fix(1, 4, false);
        Due.is("changes that part others for sure", () -> y.better(0), Due.VOID);
        SlipHeaps next = heaped(0, 1, 0, 1);
        next.law(0, 2);
        next.weigh(1, 2, 5);
        better(next, 0, 2, 0, 1);
        SlipHeaps never = heaped(0, 0, 2, 2);
        never.law(0, 2);
        never.weigh(0, 2, 5);
        never.weigh(0, 3, SlipHeaps.VOID);
        better(never, 0, 2, 0, 3);
        SlipHeaps z = heaped(0, 0, 2);
        z.law(0, 2);
        z.weigh(0, 1, -3);
        z.weigh(0, 2, 3);
        Due.is("going as good as changing", () -> z.better(1), 0);
        better(z, 0, 0, 0, 2);
    }

    private static void law() {
        Cases.says(12, "LAWS: 0 MOST (0 to 30)");
        SlipHeaps x = new SlipHeaps();
        Due.is("30", () -> x.law(0, 30), 0);
        Due.is("0", () -> x.law(0, 0), 30);
        Due.is("1", () -> x.law(0, 1), 0);
        Cases.says(12, ", 1 ONE BOOK (0, 1)");
        Due.is("1", () -> x.law(1, 1), 0);
        Due.is("1 again", () -> x.law(1, 1), 1);
        Due.is("0", () -> x.law(1, 0), 1);
        Cases.says(12, ", 2 SPAN (NONE to 199)");
        Due.is("199", () -> x.law(2, 199), -1);
        Due.is("0", () -> x.law(2, 0), 199);
        Due.is("NONE", () -> x.law(2, -1), 0);
        Cases.says(12, ": what it was.");
        Due.is("most", () -> x.law(0, 7), 1);
        Due.is("one book", () -> x.law(1, 1), 0);
        Due.is("span", () -> x.law(2, 8), -1);
        Cases.says(12, "IllegalArgumentException: another what, or v is none such.");
        int[][] wrong = {{-1, 0}, {3, 0}, {FAR[0], 0}, {FAR[1], 0}, {0, -1}, {0, 31}, {0, FAR[0]}, {0, FAR[1]}, {1, -1}, {1, 2},
            {1, FAR[1]}, {2, -2}, {2, 200}, {2, FAR[0]}, {2, FAR[1]}};
        for (int[] w : wrong) {
            Due.is("law(" + w[0] + ", " + w[1] + ")", () -> x.law(w[0], w[1]), Due.ILLEGAL);
        }
        Due.is("most is as it was", () -> x.law(0, 0), 7);
        Due.is("one book too", () -> x.law(1, 0), 1);
        Due.is("span too", () -> x.law(2, -1), 8);
    }

    private static void fix() {
        Cases.says(13, "A PAIR is FIXED together, or apart: how many are");
        SlipHeaps x = Due.alike(30);
        Due.is("together", () -> x.fix(1, 0, true), 1);
        Due.is("apart", () -> x.fix(1, 2, false), 2);
        Due.is("0 and 1 are to be together", x::barred, 1);
        x.join(0, 1);
        Due.is("they are", x::barred, -1);
        x.join(0, 2);
        Due.is("1 and 2 are to be apart", x::barred, 2);

        Cases.says(13, "; 0: it was FIXED (it stays).");
        Due.is("the other way round", () -> x.fix(0, 1, true), 0);
        Due.is("apart", () -> x.fix(0, 1, false), 0);
        Due.is("together", () -> x.fix(2, 1, true), 0);
        Due.is("two are", () -> x.count(3), 2);
        Due.is("1 and 2 stay apart", x::barred, 2);
        x.alone(2);
        Due.is("0 and 1 stay together", x::barred, -1);
        x.alone(1);
        Due.is("as they have to be", x::barred, 1);

        Cases.says(13, "; -1: there are 20");
        for (int i = 3; i <= 20; i++) {
            int n = i;
            Due.is("fix " + i, () -> x.fix(n, n + 1, false), i);
        }
        x.join(0, 1);
        Due.is("a 21st", () -> x.fix(28, 29, true), -1);
        Due.is("20 are", () -> x.count(3), 20);
        Due.is("it has no force", x::barred, -1);
        Due.is("none of 30", () -> x.fix(30, 0, true), Due.NO_SUCH);
        Due.is("none below 0", () -> x.fix(0, -1, true), Due.NO_SUCH);
        Due.is("none twice", () -> x.fix(30, 30, true), Due.NO_SUCH);
        Due.is("one", () -> x.fix(29, 29, true), Due.ILLEGAL);

        Cases.says(14, "A PAIR is FIXED no more: 1");
        x.alone(1);
        Due.is("0 and 1 are to be together", x::barred, 1);
        Due.is("together", () -> x.loose(1, 0), 1);
        Due.is("so lawful", x::barred, -1);
        Due.is("apart", () -> x.loose(1, 2), 1);
        x.join(1, 2);
        Due.is("lawful still", x::barred, -1);
        Due.is("18 are", () -> x.count(3), 18);

        Cases.says(14, "; 0: it was not.");
        Due.is("again", () -> x.loose(0, 1), 0);
        Due.is("another", () -> x.loose(0, 29), 0);
        Due.is("18 are", () -> x.count(3), 18);
        Due.is("none of 30", () -> x.loose(0, 30), Due.NO_SUCH);
        Due.is("none twice", () -> x.loose(-1, -1), Due.NO_SUCH);
        Due.is("one", () -> x.loose(0, 0), Due.ILLEGAL);
    }

    private static void put() {
        Cases.says(15, "An ENTRY goes to the HEAP of another one: the HEAP's number then.");
        SlipHeaps x = Due.alike(5);
        Due.is("3 to 4", () -> x.put(3, 4), 3);
        Due.is("2 to 4", () -> x.put(2, 4), 2);
        Due.is("2 to 0", () -> x.put(2, 0), 0);
        Due.is("heaps", () -> heaps(x), "0 1 0 3 3");
        Due.is("0 to 3", () -> x.put(0, 3), 0);
        Due.is("its heap has 2's number", () -> heaps(x), "0 1 2 0 0");
        Due.is("where it is", () -> x.put(4, 0), 0);
        Due.is("the least, where it is", () -> x.put(0, 4), 0);
        Due.is("heaps then", () -> heaps(x), "0 1 2 0 0");
        for (int e : new int[] {-1, 5, FAR[0], FAR[1]}) {
            Due.is("none such", () -> x.put(e, 0), Due.NO_SUCH);
            Due.is("to none such", () -> x.put(0, e), Due.NO_SUCH);
            Due.is("none such to itself", () -> x.put(e, e), Due.NO_SUCH);
            Due.is("none alone", () -> x.alone(e), Due.NO_SUCH);
        }
        Due.is("to itself", () -> x.put(4, 4), Due.ILLEGAL);
        Due.is("heaps still", () -> heaps(x), "0 1 2 0 0");
        x.fix(0, 1, false);
        x.law(0, 1);
        Due.is("whatever the laws are", () -> x.put(0, 1), 0);
        Due.is("not lawful", x::barred, 1);

        Cases.says(16, "An ENTRY goes alone: whether it was not.");
        SlipHeaps y = heaped(0, 0, 0, 3);
        Due.is("3 was", () -> y.alone(3), 0);
        Due.is("0 was not", () -> y.alone(0), 1);
        Due.is("heaps", () -> heaps(y), "0 1 1 3");
        Due.is("0 was", () -> y.alone(0), 0);
        Due.is("2 was not", () -> y.alone(2), 1);
        Due.is("1 was then", () -> y.alone(1), 0);
        Due.is("all are", () -> heaps(y), "0 1 2 3");
    }

    private static void joinAndSwap() {
        Cases.says(17, "The HEAPS of two ENTRIES become one: its number");
        SlipHeaps x = Due.alike(6);
        Due.is("4 and 5", () -> x.join(5, 4), 4);
        Due.is("2 and 5", () -> x.join(5, 2), 2);
        Due.is("0 and 1", () -> x.join(0, 1), 0);
        Due.is("1 and 4", () -> x.join(4, 1), 0);
        Due.is("heaps", () -> heaps(x), "0 0 0 3 0 0");

        Cases.says(17, "; -1: they are one HEAP (one ENTRY told twice, too).");
        Due.is("one heap", () -> x.join(1, 4), -1);
        Due.is("one entry alone", () -> x.join(3, 3), -1);
        Due.is("one entry of many", () -> x.join(0, 0), -1);
        Due.is("heaps", () -> heaps(x), "0 0 0 3 0 0");

        Cases.says(18, "Two ENTRIES change places: 1");
        Due.is("0 and 3", () -> x.swap(0, 3), 1);
        Due.is("heaps", () -> heaps(x), "0 1 1 1 1 1");
        Due.is("back", () -> x.swap(0, 3), 1);
        Due.is("heaps again", () -> heaps(x), "0 0 0 3 0 0");
        SlipHeaps y = heaped(0, 0, 2, 2, 4);
        Due.is("1 and 2", () -> y.swap(2, 1), 1);
        Due.is("two of two", () -> heaps(y), "0 1 0 1 4");
        Due.is("both alone", () -> heaped(0, 1).swap(0, 1), 1);

        Cases.says(18, "; -1: they are in one HEAP (likewise).");
        Due.is("one heap", () -> y.swap(0, 2), -1);
        Due.is("one entry of two", () -> y.swap(1, 1), -1);
        Due.is("one entry alone", () -> y.swap(4, 4), -1);
        Due.is("heaps", () -> heaps(y), "0 1 0 1 4");
        for (int e : new int[] {-1, 5, FAR[0], FAR[1]}) {
            Due.is("swap of none", () -> y.swap(e, 0), Due.NO_SUCH);
            Due.is("swap with none", () -> y.swap(0, e), Due.NO_SUCH);
            Due.is("swap of none twice", () -> y.swap(e, e), Due.NO_SUCH);
            Due.is("join of none", () -> y.join(e, 0), Due.NO_SUCH);
            Due.is("join with none", () -> y.join(0, e), Due.NO_SUCH);
            Due.is("join of none twice", () -> y.join(e, e), Due.NO_SUCH);
        }
    }

    private static void costAndBarred() {
        Cases.says(19, "COST of HAND.");
        SlipHeaps x = heaped(0, 0, 2);
        int[][] told = {{0, 1, -7}, {0, 2, 10000}, {1, 2, -10000}};
        for (int[] t : told) {
            x.weigh(t[0], t[1], t[2]);
        }
        Due.is("0 with 1", x::cost, 10007);
        x.put(0, 2);
        Due.is("0 with 2", x::cost, 0);
        x.put(1, 2);
        Due.is("all", x::cost, 10007);
        Due.is("of none", () -> new SlipHeaps().cost(), 0);
        x.law(0, 1);
        Due.is("not lawful", x::cost, 10007);

        Cases.says(20, "BARRED in HAND");
        Due.is("1", x::barred, 1);
        x.law(0, 2);
        Due.is("2", x::barred, 2);
        Cases.says(20, "; NONE: it is LAWFUL.");
        x.law(0, 3);
        Due.is("lawful", x::barred, -1);
        Due.is("of none", () -> new SlipHeaps().barred(), -1);
        Due.is("of one", () -> {
            SlipHeaps one = Due.alike(1);
            one.law(0, 1);
            one.law(1, 1);
            one.law(2, 0);
            return one.barred();
        }, -1);
    }

    private static void better() {
        Cases.says(21, "The BEST CHANGE of HAND: what 0 the COST behind it");
        SlipHeaps x = heaped(0, 0, 2);
        x.weigh(0, 1, -4);
        x.weigh(1, 2, 3);
        x.weigh(0, 2, 1);
        Due.is("cost", () -> x.better(0), 1);
        Due.is("hand is as it was", () -> heaps(x) + " " + x.cost(), "0 0 2 8");
        Cases.says(21, ", 1 its sort (0 to 2)");
        Due.is("going", () -> x.better(1), 0);
        Due.is("joining and changing", () -> {
            SlipHeaps y = heaped(0, 0, 2, 2);
            y.weigh(0, 1, 3);
            y.weigh(2, 3, 3);
            y.weigh(0, 2, 2);
            long joining = y.better(1);
            y.law(0, 2);
            y.weigh(0, 2, 7);
            return joining * 10 + y.better(1);
        }, 12);
        Cases.says(21, ", 2 and 3 its two numbers (ENTRY and HEAP, NONE alone; both HEAPS; both ENTRIES)");
        better(x, 1, 0, 1, 2);
        x.weigh(1, 2, 0);
        x.weigh(0, 2, 0);
        x.fix(1, 2, false);
        x.fix(0, 2, false);
        better(x, 0, 0, 0, -1);
        SlipHeaps j = heaped(0, 1, 1, 0);
        j.weigh(0, 3, 3);
        j.weigh(1, 2, 3);
        j.weigh(2, 3, 2);
        better(j, 0, 1, 0, 1);
        j.law(0, 2);
        j.weigh(2, 3, 7);
        better(j, 6, 2, 0, 2);

        Cases.says(21, "; VOID: HAND is not LAWFUL, or at its END.");
        noneBetter(Due.alike(3));
        j.law(0, 1);
        noneBetter(j);
        Cases.says(21, "IllegalArgumentException: another what.");
        for (int what : new int[] {-1, 4, FAR[0], FAR[1]}) {
            Due.is("of a hand with a better one", () -> x.better(what), Due.ILLEGAL);
            Due.is("of one at its end", () -> Due.alike(2).better(what), Due.ILLEGAL);
            Due.is("of one that is not lawful", () -> j.better(what), Due.ILLEGAL);
        }
    }

    /** One BEST CHANGE is made, and what is in HAND then. */
    private static void grown(SlipHeaps x, String due, int[]... told) {
        for (int[] t : told) {
            x.weigh(t[0], t[1], t[2]);
        }
        Due.is("one change to " + due, () -> x.grow(1), 1);
        Due.is("hand then", () -> heaps(x), due);
    }

    private static void grow() {
        Cases.says(22, "So many BEST CHANGES are made at most");
        SlipHeaps x = Due.alike(4);
        x.weigh(0, 1, 3);
        x.weigh(1, 2, 4);
        x.weigh(2, 3, 5);
        Due.is("one", () -> x.grow(1), 1);
        Due.is("the best one", () -> heaps(x), "0 1 2 2");
        Due.is("one more", () -> x.grow(1), 1);
        Due.is("the best one then", () -> heaps(x), "0 1 1 1");
        grown(heaped(0, 0), "0 1", new int[] {0, 1, -5});
        grown(heaped(0, 0, 2), "0 1 0", new int[] {0, 1, -5}, new int[] {0, 2, 5});
        grown(heaped(0, 1, 1, 0), "0 0 0 0", new int[] {0, 3, 3}, new int[] {1, 2, 3}, new int[] {2, 3, 2});
        SlipHeaps full = heaped(0, 0, 2, 2);
        full.law(0, 2);
        grown(full, "0 1 0 1", new int[] {0, 2, 5});
        SlipHeaps held = Due.alike(3);
        held.weigh(0, 1, 5);
        held.fix(0, 1, false);
        Due.is("none that is not lawful", () -> held.grow(100), 0);
        Due.is("hand stays", () -> heaps(held), "0 1 2");
        Cases.says(22, "(0 to 100)");
        Due.is("none", () -> x.grow(0), 0);
        Due.is("is made", () -> heaps(x), "0 1 1 1");
        Due.is("100", () -> x.grow(100), 1);
        for (int most : new int[] {-1, 101, FAR[0], FAR[1]}) {
            Due.is("grow(" + most + ")", () -> x.grow(most), Due.ILLEGAL);
        }
        Cases.says(22, ": how many were");
        Due.is("none is left", () -> x.grow(100), 0);
        Due.is("at the end", () -> heaps(x), "0 0 0 0");
        SlipHeaps y = Due.alike(30);
        Due.rules(y, "for 1;");
        Due.is("28 of 29", () -> y.grow(28), 28);
        Due.is("29th", () -> y.grow(28), 1);
        Due.is("all in one", () -> y.count(4), 1);
        Cases.says(22, "; -1: HAND is not LAWFUL.");
        y.law(0, 29);
        Due.is("one too many", () -> y.grow(100), -1);
        Due.is("none at all", () -> y.grow(0), -1);
        Due.is("hand stays", () -> y.count(4), 1);
        Due.is("too many still", () -> y.grow(101), Due.ILLEGAL);
        y.alone(3);
        Due.is("lawful, at its end", () -> y.grow(100), 0);
    }

    private static void marks() {
        Cases.says(40, "A MARK of HAND: how many there are");
        SlipHeaps x = Due.alike(7);
        for (int i = 1; i <= 6; i++) {
            int n = i;
            Due.is("mark " + i, x::mark, i);
            x.join(0, n);
        }
        Cases.says(40, "; -1: there are 6.");
        Due.is("a 7th", x::mark, -1);
        Due.is("6 are there", () -> x.count(7), 6);

        Cases.says(41, "HAND is as at the latest MARK (which is gone;");
        x.alone(6);
        x.swap(6, 0);
        Due.is("5 are left", x::back, 5);
        Due.is("as at the 6th, not at a 7th", () -> heaps(x), "0 0 0 0 0 0 6");
        Due.is("4 are left", x::back, 4);
        Due.is("as at the 5th", () -> heaps(x), "0 0 0 0 0 5 6");

        Cases.says(41, "; ENTRIES told since are alone)");
        for (int i = 7; i < 30; i++) {
            x.entry(0, 0, 0, 0, -1);
            x.join(0, i);
        }
        Due.is("3 are left", x::back, 3);
        Due.is("as at the 4th", () -> heaps(x).substring(0, 17), "0 0 0 0 4 5 6 7 8");
        Due.is("29 is alone", () -> x.of(29, 5), 29);
        Due.is("heaps", () -> x.count(4), 27);

        Cases.says(41, ": how many MARKS are left");
        Due.is("a mark again", x::mark, 4);
        x.join(0, 29);
        Due.is("3", x::back, 3);
        Due.is("29 is alone", () -> x.alone(29), 0);
        Due.is("2", x::back, 2);
        Due.is("1", x::back, 1);
        Due.is("0", x::back, 0);
        Due.is("all alone", () -> x.count(4), 30);

        Cases.says(41, "; -1: there is none.");
        x.join(0, 1);
        Due.is("none", x::back, -1);
        Due.is("hand stays", () -> x.of(1, 5), 0);
        Due.is("of a new object", () -> new SlipHeaps().back(), -1);
        Due.is("a mark of no entries", () -> {
            SlipHeaps y = new SlipHeaps();
            y.mark();
            y.entry(0, 0, 0, 0, -1);
            y.entry(0, 0, 0, 0, -1);
            y.join(0, 1);
            return y.back() * 100 + y.of(0, 5) * 10 + y.of(1, 5);
        }, 1);
    }
}
