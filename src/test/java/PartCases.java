/** Cases of PARTS, their BEST, FIRST, ALWAYS, EDGE and HOLDS, and of promises 27 to 34. */
final class PartCases {
    private static final int[] FAR = {Integer.MIN_VALUE, Integer.MAX_VALUE};

    private PartCases() {
    }

    static void run() {
        parts();
        bestOfPart();
        firstAndAll();
        always();
        edge();
        holds();
        bestManyFirst();
        all();
        take();
        alwaysAndEdge();
        holdsCall();
    }

    static SlipHeaps weighed(int n, int[]... told) {
        SlipHeaps x = Due.alike(n);
        for (int[] t : told) {
            x.weigh(t[0], t[1], t[2]);
        }
        return x;
    }

    static String firsts(SlipHeaps x) {
        StringBuilder s = new StringBuilder();
        for (int i = 0; i < x.count(0); i++) {
            s.append(x.first(i)).append(' ');
        }
        return s.toString().trim();
    }

    /** A PART of so many ENTRIES, each hanging at the next by 1. */
    static SlipHeaps chain(int n) {
        SlipHeaps x = Due.alike(n);
        for (int i = 1; i < n; i++) {
            x.weigh(i - 1, i, 1);
        }
        return x;
    }

    /** Two ENTRIES that have to be together and can't be; a third one alone. */
    static SlipHeaps torn() {
        SlipHeaps x = Due.alike(3);
        x.fix(0, 1, true);
        x.weigh(0, 1, SlipHeaps.VOID);
        return x;
    }

    /** A hub that is apart from all others; these may be heaped as they like, but for the PAIRS told: so many BEST ones. */
    static SlipHeaps hub(int others, int[]... never) {
        SlipHeaps x = Due.alike(others + 1);
        for (int i = 1; i <= others; i++) {
            x.weigh(0, i, 1);
            x.fix(0, i, false);
        }
        for (int[] n : never) {
            x.weigh(n[0] + 1, n[1] + 1, SlipHeaps.VOID);
        }
        return x;
    }

    private static void parts() {
        Cases.says(Cases.TERMS, "PARTS: ENTRIES that hang together by PAIRS with WEIGHT above 0 that are not NEVER");
        SlipHeaps x = Due.alike(6);
        Due.is("each alone", () -> x.count(5), 6);
        x.weigh(5, 0, 1);
        Due.is("by 1", () -> x.of(5, 6) * 10 + x.of(5, 7), 2);
        x.weigh(5, 0, 0);
        Due.is("not by 0", () -> x.of(5, 6) * 10 + x.of(5, 7), 51);
        x.weigh(5, 0, -1);
        Due.is("not by -1", () -> x.count(5), 6);
        x.weigh(5, 0, SlipHeaps.VOID);
        Due.is("not by never", () -> x.count(5), 6);
        int[][] path = {{0, 5}, {5, 1}, {1, 4}, {4, 2}};
        for (int[] p : path) {
            x.weigh(p[0], p[1], 7);
        }
        Due.is("one by the other", () -> x.of(2, 6) * 10 + x.of(2, 7), 5);
        Due.is("but 3", () -> x.of(3, 6) * 10 + x.of(3, 7), 31);
        Due.is("two parts", () -> x.count(5), 2);
        x.weigh(1, 4, SlipHeaps.VOID);
        Due.is("cut", () -> x.of(2, 6) * 10 + x.of(1, 7), 23);
        SlipHeaps r = Due.alike(3);
        Due.rules(r, "for 5;never if 1=1;");
        Due.is("what for tells of a never", () -> r.count(5), 3);
        SlipHeaps zigzag = Due.alike(30);
        for (int i = 0; i < 29; i++) {
            int a = i % 2 == 0 ? i / 2 : 29 - i / 2;
            int b = i % 2 == 0 ? 29 - i / 2 : i / 2 + 1;
            zigzag.weigh(a, b, 1);
        }
        Due.is("thirty to and fro", () -> zigzag.count(5) * 100 + zigzag.of(14, 7), 130);
        SlipHeaps down = Due.alike(30);
        for (int i = 1; i < 29; i++) {
            down.weigh(i, i + 1, 1);
        }
        down.weigh(0, 29, 1);
        Due.is("thirty down", () -> down.count(5) * 100 + down.of(1, 6), 100);

        Cases.says(Cases.TERMS, ", and by FIXED together.");
        SlipHeaps y = Due.alike(3);
        y.fix(2, 1, true);
        Due.is("together", () -> y.of(2, 6), 1);
        y.fix(0, 1, false);
        Due.is("not apart", () -> y.of(1, 6) * 10 + y.of(1, 7), 12);
        y.weigh(1, 2, SlipHeaps.VOID);
        Due.is("though they are never", () -> y.of(2, 7), 2);
        y.loose(1, 2);
        Due.is("no more", () -> y.count(5), 3);
    }

    private static void bestOfPart() {
        Cases.says(Cases.TERMS, "BEST of a PART (of 10 ENTRIES at most)");
        Due.is("of 1", () -> Due.alike(1).best(0), 0);
        Due.is("of 10", () -> chain(10).best(9), 0);
        Due.is("of 11", () -> chain(11).best(10), -2);
        Due.is("of 10, and others beside it", () -> {
            SlipHeaps x = chain(30);
            x.weigh(9, 10, -5);
            return x.best(9) * 10 + x.best(10);
        }, -2);

        Cases.says(Cases.TERMS, ": of all its LAWFUL HEAPINGS those of least COST (PAIRS in it)");
        SlipHeaps x = weighed(5, new int[] {0, 1, 5}, new int[] {1, 2, 4}, new int[] {0, 2, -3}, new int[] {3, 4, 9}, new int[] {2, 3, -8});
        Due.is("all three in one", () -> x.best(1), 3);
        x.fix(3, 4, false);
        Due.is("pairs of another part cost it nothing", () -> x.best(2), 3);
        Due.is("nor it them", () -> x.best(3), 9);
        x.weigh(0, 2, -4);
        Due.is("as good", () -> x.best(1) * 10 + x.many(1), 42);
        x.law(0, 2);
        Due.is("two at most", () -> x.best(1) * 10 + x.many(1), 41);
        x.fix(0, 1, false);
        Due.is("apart", () -> x.best(1), 5);
        x.law(0, 1);
        Due.is("all alone", () -> x.best(1), 9);

        Cases.says(Cases.TERMS, "; there may be none.");
        Due.is("torn", () -> torn().best(0), -1);
        SlipHeaps y = chain(3);
        y.fix(0, 2, true);
        y.law(0, 1);
        Due.is("most", () -> y.best(1), -1);
        y.law(0, 2);
        Due.is("two are enough", () -> y.best(1), 2);
        y.fix(0, 1, true);
        Due.is("three that hang together", () -> y.best(1), -1);
        y.law(0, 0);
        y.law(1, 1);
        Due.is("one book", () -> y.best(1), -1);
        y.law(1, 0);
        y.fix(1, 2, false);
        Due.is("fixed round about", () -> y.best(1), -1);
    }

    private static void firstAndAll() {
        Cases.says(Cases.TERMS, "FIRST of them: ENTRY by ENTRY the least number of its HEAP.");
        SlipHeaps x = weighed(3, new int[] {0, 1, 5}, new int[] {1, 2, 5}, new int[] {0, 2, -5});
        Due.is("of three", () -> x.many(0), 3);
        Due.is("all in one", () -> firsts(x), "0 0 0");
        x.law(0, 2);
        Due.is("of two", () -> x.many(0), 2);
        Due.is("0 with 1", () -> firsts(x), "0 0 2");
        x.weigh(0, 1, 4);
        Due.is("the only one", () -> firsts(x), "0 1 1");
        SlipHeaps y = weighed(4, new int[] {0, 3, 2}, new int[] {1, 3, 2}, new int[] {2, 3, 2});
        y.law(0, 2);
        Due.is("three, and who is left may be together", () -> y.many(0), 6);
        Due.is("0 with 1, as they cost nothing", () -> firsts(y), "0 0 2 2");
        y.fix(0, 1, false);
        Due.is("then 0 with 2", () -> firsts(y), "0 1 0 1");

        Cases.says(Cases.TERMS, "The BEST of all: each PART's (of at most 10) BEST, and of PAIRS in unlike PARTS nothing.");
        SlipHeaps z = weighed(6, new int[] {0, 1, 5}, new int[] {1, 2, 5}, new int[] {0, 2, -3}, new int[] {3, 4, 6}, new int[] {2, 3, -9},
            new int[] {0, 5, SlipHeaps.VOID});
        z.fix(3, 4, false);
        z.fix(0, 3, false);
        for (int i = 1; i < 6; i++) {
            z.join(0, i);
        }
        Due.is("3 and 6 and 0", z::all, 9);
        Due.is("taken", z::take, 1);
        Due.is("it costs as much", z::cost, 9);
        SlipHeaps tens = chain(30);
        tens.weigh(9, 10, -1);
        tens.weigh(19, 20, -1);
        tens.law(0, 5);
        Due.is("three of 10", tens::all, 3);
        tens.weigh(19, 20, 1);
        Due.is("one of 20", tens::all, -2);
    }

    private static void always() {
        Cases.says(Cases.TERMS, "ALWAYS is a PAIR (of one PART) that is together in all BEST ones, NOWHERE in none, FREE else.");
        SlipHeaps x = weighed(4, new int[] {0, 1, 9}, new int[] {1, 2, 5}, new int[] {0, 2, -5}, new int[] {2, 3, 9}, new int[] {0, 3, -20});
        Due.is("one best", () -> x.many(0), 1);
        Due.is("0 1", () -> x.always(0, 1), 1);
        Due.is("2 3", () -> x.always(3, 2), 1);
        Due.is("1 2", () -> x.always(1, 2), -1);
        Due.is("1 3, which weighs nothing", () -> x.always(1, 3), -1);
        SlipHeaps y = weighed(3, new int[] {0, 1, 5}, new int[] {1, 2, 5}, new int[] {0, 2, -5});
        Due.is("free", () -> y.always(0, 1), 0);
        Due.is("free in one of three", () -> y.always(0, 2), 0);
        y.weigh(0, 1, 6);
        Due.is("in both", () -> y.always(0, 1), 1);
        Due.is("in one of two", () -> y.always(1, 2), 0);
        y.weigh(0, 2, SlipHeaps.VOID);
        Due.is("never", () -> y.always(0, 2), -1);
        Due.is("the lighter one", () -> y.always(1, 2), -1);
        SlipHeaps apart = chain(2);
        apart.fix(0, 1, false);
        Due.is("in the only one", () -> apart.always(0, 1), -1);
    }

    private static void edge() {
        Cases.says(Cases.TERMS, "EDGE of a PAIR of one PART: the least COST with both apart less that with both together");
        SlipHeaps x = weighed(3, new int[] {0, 1, 10}, new int[] {1, 2, 4}, new int[] {0, 2, -6});
        Due.is("10 of 0 1: apart 10, together 4", () -> x.edge(0, 1), 6);
        Due.is("turned round", () -> x.edge(1, 0), 6);
        Due.is("1 2: apart 4, together 6", () -> x.edge(1, 2), -2);
        Due.is("0 2: apart 4, together 6", () -> x.edge(0, 2), -2);
        x.weigh(0, 2, -4);
        Due.is("as good", () -> x.edge(1, 2), 0);
        SlipHeaps big = weighed(2, new int[] {0, 1, 10000});
        Due.is("10,000", () -> big.edge(0, 1), 10000);

        Cases.says(Cases.TERMS, "; VOID if one of them can't be.");
        x.fix(0, 1, true);
        Due.is("fixed together", () -> x.edge(0, 1), Due.VOID);
        Due.is("another", () -> x.edge(1, 2), 0);
        x.loose(0, 1);
        x.fix(0, 1, false);
        Due.is("fixed apart", () -> x.edge(0, 1), Due.VOID);
        x.loose(0, 1);
        x.weigh(0, 2, SlipHeaps.VOID);
        Due.is("never", () -> x.edge(0, 2), Due.VOID);
        Due.is("never with one of both", () -> x.edge(0, 1), 6);
        SlipHeaps y = weighed(3, new int[] {0, 1, 3}, new int[] {1, 2, 3});
        y.law(0, 1);
        Due.is("most 1", () -> y.edge(0, 1), Due.VOID);
        y.law(0, 0);
        y.fix(0, 1, true);
        y.fix(1, 2, true);
        Due.is("fixed round about", () -> y.edge(0, 2), Due.VOID);
        y.loose(0, 1);
        y.law(0, 2);
        Due.is("most 2, 1 and 2 together", () -> y.edge(0, 1), Due.VOID);
        Due.is("none with none at all", () -> torn().edge(0, 1), Due.VOID);
    }

    private static void holds() {
        Cases.says(Cases.TERMS, "HOLDS is a PAIR for p hundredths (0 to 100): if 100 times the EDGE is above 2 p times the sum",
            "of amounts of WEIGHTS of PAIRS in its PART (that are not NEVER): together for sure (1)");
        SlipHeaps x = weighed(5, new int[] {0, 1, 10}, new int[] {1, 2, 4}, new int[] {0, 2, -6}, new int[] {2, 3, -50}, new int[] {3, 4, 40});
        Due.is("600 above 2 * 14 * 20", () -> x.holds(0, 1, 14), 1);
        Due.is("600 is 2 * 15 * 20", () -> x.holds(0, 1, 15), 0);
        Due.is("6 above 0", () -> x.holds(1, 0, 0), 1);
        Due.is("100", () -> x.holds(0, 1, 100), 0);
        SlipHeaps one = weighed(2, new int[] {0, 1, 10000});
        Due.is("49 of one pair", () -> one.holds(0, 1, 49), 1);
        Due.is("50 of it", () -> one.holds(0, 1, 50), 0);
        x.weigh(0, 2, SlipHeaps.VOID);
        Due.is("never has no amount: 600 above 2 * 21 * 14", () -> x.holds(0, 1, 21), 1);
        Due.is("600 not above 2 * 22 * 14", () -> x.holds(0, 1, 22), 0);
        Due.is("of ten: 100 above 2 * 5 * 9", () -> chain(10).holds(0, 1, 5), 1);
        Due.is("100 not above 2 * 6 * 9", () -> chain(10).holds(0, 1, 6), 0);
        SlipHeaps behind = weighed(6, new int[] {0, 1, 10}, new int[] {2, 3, 10}, new int[] {3, 4, 10}, new int[] {4, 5, 10});
        Due.is("of four", () -> behind.holds(2, 3, 16), 1);
        Due.is("of two behind it", () -> behind.holds(0, 1, 49), 1);

        Cases.says(Cases.TERMS, "; if the EDGE is that far below 0: apart for sure (-1); else 0.");
        x.weigh(0, 2, -6);
        Due.is("200 above 2 * 4 * 20", () -> x.holds(1, 2, 4), -1);
        Due.is("200 is 2 * 5 * 20", () -> x.holds(1, 2, 5), 0);
        Due.is("-2 below 0", () -> x.holds(2, 0, 0), -1);
        x.weigh(0, 2, -4);
        Due.is("0 is neither", () -> x.holds(1, 2, 0), 0);
    }

    private static void bestManyFirst() {
        SlipHeaps x = weighed(4, new int[] {0, 2, 5}, new int[] {2, 3, 5}, new int[] {0, 3, -4});
        Cases.says(27, "COST of the BEST of an ENTRY's PART");
        Due.is("4", () -> x.best(0), 4);
        Due.is("of the same", () -> x.best(3), 4);
        Due.is("of one alone", () -> x.best(1), 0);
        Cases.says(27, "; -1: there is none");
        Due.is("torn", () -> torn().best(1), -1);
        Due.is("beside it", () -> torn().best(2), 0);
        SlipHeaps both = weighed(5, new int[] {0, 1, 5}, new int[] {1, 2, 5}, new int[] {0, 2, -5}, new int[] {3, 4, SlipHeaps.VOID});
        both.fix(3, 4, true);
        Due.is("behind one that has three", () -> both.best(0) * 10 + both.many(0), 53);
        Due.is("torn too", () -> both.best(3), -1);
        Cases.says(27, "; -2: the PART has more than 10.");
        Due.is("of 10", () -> chain(10).best(0), 0);
        Due.is("of 11", () -> chain(11).best(0), -2);
        Due.is("of 30", () -> chain(30).best(29), -2);
        Due.is("of 11 that can't be heaped", () -> {
            SlipHeaps y = chain(11);
            y.fix(0, 1, true);
            y.law(0, 1);
            return y.best(5);
        }, -2);

        Cases.says(28, "How many BEST ones an ENTRY's PART has");
        Due.is("one", () -> x.many(2), 1);
        x.weigh(0, 3, -5);
        Due.is("three", () -> x.many(2), 3);
        Due.is("one of one", () -> x.many(1), 1);
        Due.is("all of nine others", () -> hub(9).many(0), 21147);
        Cases.says(28, "(0: none)");
        Due.is("torn", () -> torn().many(0), 0);
        Due.is("behind one that has three", () -> both.many(1) * 10 + both.many(3), 30);
        Cases.says(28, "; -2 likewise.");
        Due.is("of 10", () -> chain(10).many(0), 1);
        Due.is("of 11", () -> chain(11).many(10), -2);

        Cases.says(29, "The HEAP of an ENTRY in the FIRST of its PART");
        Due.is("heaps", () -> firsts(x), "0 1 0 0");
        x.law(0, 2);
        Due.is("two at most", () -> firsts(x), "0 1 0 3");
        x.join(0, 1);
        Due.is("hand is another", () -> x.first(1), 1);
        Cases.says(29, "; -1, -2 likewise.");
        Due.is("torn", () -> torn().first(0), -1);
        Due.is("behind one that has three", () -> both.first(1) * 10 + both.first(3), -1);
        Due.is("beside it", () -> torn().first(2), 2);
        Due.is("of 10", () -> chain(10).first(9), 0);
        Due.is("of 11", () -> chain(11).first(9), -2);
        for (int e : new int[] {-1, 4, FAR[0], FAR[1]}) {
            Due.is("best of none", () -> x.best(e), Due.NO_SUCH);
            Due.is("many of none", () -> x.many(e), Due.NO_SUCH);
            Due.is("first of none", () -> x.first(e), Due.NO_SUCH);
        }
    }

    /** A PART of 11, and two ENTRIES that have to be together and can't be, ahead of it or behind it. */
    private static SlipHeaps bigAndTorn(int big, int torn) {
        SlipHeaps x = Due.alike(13);
        for (int i = big + 1; i < big + 11; i++) {
            x.weigh(i - 1, i, 1);
        }
        x.fix(torn, torn + 1, true);
        x.weigh(torn, torn + 1, SlipHeaps.VOID);
        return x;
    }

    private static void all() {
        Cases.says(30, "The BEST of all: its COST");
        SlipHeaps x = weighed(5, new int[] {0, 1, 5}, new int[] {2, 3, 6});
        Due.is("0", x::all, 0);
        x.law(0, 1);
        Due.is("5 and 6", x::all, 11);
        Due.is("of none", () -> new SlipHeaps().all(), 0);
        Cases.says(30, "; -1: one PART has none");
        Due.is("torn", () -> torn().all(), -1);
        Cases.says(30, "; -2: one has more than 10");
        Due.is("10", () -> chain(10).all(), 0);
        Due.is("11", () -> chain(11).all(), -2);
        Cases.says(30, "(the first of these).");
        Due.is("11 ahead of one without", () -> bigAndTorn(0, 11).all(), -1);
        Due.is("11 behind it", () -> bigAndTorn(2, 0).all(), -1);
    }

    private static void take() {
        Cases.says(31, "HAND becomes the FIRST of all: 1");
        SlipHeaps x = weighed(5, new int[] {0, 3, 5}, new int[] {3, 4, 5}, new int[] {0, 4, -5}, new int[] {1, 2, -5});
        x.join(0, 1);
        x.join(0, 2);
        Due.is("take", x::take, 1);
        Due.is("hand", () -> HandCases.heaps(x), "0 1 2 0 0");
        x.law(0, 2);
        Due.is("take", x::take, 1);
        Due.is("hand then", () -> HandCases.heaps(x), "0 1 2 0 4");
        Due.is("of none", () -> new SlipHeaps().take(), 1);
        Cases.says(31, "; -1, -2 likewise");
        Due.is("torn", () -> torn().take(), -1);
        Due.is("of 10", () -> chain(10).take(), 1);
        Due.is("of 11", () -> chain(11).take(), -2);
        Due.is("both, 11 ahead", () -> bigAndTorn(0, 11).take(), -1);
        Due.is("both, 11 behind", () -> bigAndTorn(2, 0).take(), -1);
        Cases.says(31, ", doing nothing.");
        SlipHeaps t = torn();
        t.join(1, 2);
        t.take();
        Due.is("torn", () -> HandCases.heaps(t), "0 1 1");
        SlipHeaps b = bigAndTorn(2, 0);
        b.join(1, 12);
        b.take();
        Due.is("both", () -> HandCases.heaps(b), "0 1 2 3 4 5 6 7 8 9 10 11 1");
        SlipHeaps e = chain(12);
        e.weigh(0, 1, 0);
        e.join(0, 11);
        e.take();
        Due.is("of 11", () -> HandCases.heaps(e), "0 1 2 3 4 5 6 7 8 9 10 0");
    }

    private static void alwaysAndEdge() {
        SlipHeaps x = weighed(4, new int[] {0, 1, 5}, new int[] {1, 2, 5}, new int[] {0, 2, -5});
        Cases.says(32, "A PAIR: 1 ALWAYS, 0 FREE, -1 NOWHERE");
        Due.is("free", () -> x.always(0, 1), 0);
        x.weigh(0, 1, 6);
        Due.is("always", () -> x.always(1, 0), 1);
        x.weigh(0, 2, -6);
        Due.is("nowhere", () -> x.always(2, 0), -1);
        Cases.says(32, "; -2: its PART has more than 10, or no BEST, or they are of two.");
        Due.is("of 10", () -> chain(10).always(0, 9), 1);
        Due.is("of 11", () -> chain(11).always(0, 10), -2);
        Due.is("torn", () -> torn().always(0, 1), -2);
        Due.is("of two", () -> x.always(0, 3), -2);
        Due.is("of two, turned round", () -> x.always(3, 0), -2);
        Due.is("of two, one torn", () -> torn().always(2, 0), -2);
        Due.is("of two that are never", () -> weighed(2, new int[] {0, 1, SlipHeaps.VOID}).always(0, 1), -2);
        for (int e : new int[] {-1, 4, FAR[0], FAR[1]}) {
            Due.is("none such", () -> x.always(e, 0), Due.NO_SUCH);
            Due.is("none such, the other", () -> x.always(0, e), Due.NO_SUCH);
            Due.is("none such, twice", () -> x.always(e, e), Due.NO_SUCH);
            Due.is("edge of none", () -> x.edge(e, 0), Due.NO_SUCH);
            Due.is("edge with none", () -> x.edge(0, e), Due.NO_SUCH);
            Due.is("edge of none, twice", () -> x.edge(e, e), Due.NO_SUCH);
        }
        Due.is("one", () -> x.always(3, 3), Due.ILLEGAL);
        Due.is("edge of one", () -> x.edge(3, 3), Due.ILLEGAL);
        Due.is("one of 11", () -> chain(11).always(3, 3), Due.ILLEGAL);

        Cases.says(33, "EDGE of a PAIR");
        Due.is("0 1: apart 6, together 5", () -> x.edge(0, 1), 1);
        Due.is("0 2: apart 5, together 6", () -> x.edge(0, 2), -1);
        Cases.says(33, "; VOID: also where always() has -2 (but for a PART without BEST).");
        Due.is("of 10", () -> chain(10).edge(0, 9), 1);
        Due.is("of 11", () -> chain(11).edge(0, 10), Due.VOID);
        Due.is("of two", () -> x.edge(0, 3), Due.VOID);
        Due.is("of two, turned round", () -> x.edge(3, 0), Due.VOID);
        Due.is("a part without one has neither", () -> torn().edge(1, 0), Due.VOID);
    }

    private static void holdsCall() {
        SlipHeaps x = weighed(4, new int[] {0, 1, 10}, new int[] {1, 2, 4}, new int[] {0, 2, -6});
        Cases.says(34, "HOLDS: 1, 0, -1");
        Due.is("1", () -> x.holds(0, 1, 14), 1);
        Due.is("0", () -> x.holds(0, 1, 15), 0);
        Due.is("-1", () -> x.holds(0, 2, 4), -1);
        Due.is("0 again", () -> x.holds(0, 2, 5), 0);
        Cases.says(34, "; -2: EDGE is VOID.");
        Due.is("of two", () -> x.holds(0, 3, 0), -2);
        Due.is("of 11", () -> chain(11).holds(0, 1, 0), -2);
        Due.is("torn", () -> torn().holds(0, 1, 100), -2);
        x.fix(0, 1, true);
        Due.is("fixed together", () -> x.holds(0, 1, 0), -2);
        x.weigh(0, 2, SlipHeaps.VOID);
        Due.is("never", () -> x.holds(0, 2, 0), -2);
        x.loose(0, 1);
        Cases.says(34, "IllegalArgumentException: also p.");
        for (int p : new int[] {-1, 101, FAR[0], FAR[1]}) {
            Due.is("p of " + p, () -> x.holds(1, 2, p), Due.ILLEGAL);
            Due.is("of two", () -> x.holds(0, 3, p), Due.ILLEGAL);
            Due.is("of one", () -> x.holds(3, 3, p), Due.ILLEGAL);
            Due.is("of none", () -> x.holds(0, 4, p), Due.NO_SUCH);
        }
        Due.is("one", () -> x.holds(2, 2, 0), Due.ILLEGAL);
        Due.is("none", () -> x.holds(-1, 2, 0), Due.NO_SUCH);
        Due.is("none twice", () -> x.holds(4, 4, 0), Due.NO_SUCH);
        Due.is("p of 0", () -> x.holds(1, 2, 0) != -2, 1);
        Due.is("p of 100", () -> x.holds(1, 2, 100) != -2, 1);
    }
}
