/** Cases of RINGS, PACKED and TOLD ones, and of promises 23 to 26. */
final class RingCases {
    private static final int[] FAR = {Integer.MIN_VALUE, Integer.MAX_VALUE};

    private RingCases() {
    }

    static void run() {
        ringsAre();
        rests();
        packed();
        toldOnes();
        gone();
        bound();
        ring();
        rings();
        told();
    }

    private static SlipHeaps weighed(int n, int[]... told) {
        SlipHeaps x = Due.alike(n);
        for (int[] t : told) {
            x.weigh(t[0], t[1], t[2]);
        }
        return x;
    }

    private static SlipHeaps three(int ab, int bc, int ac) {
        return weighed(3, new int[] {0, 1, ab}, new int[] {1, 2, bc}, new int[] {0, 2, ac});
    }

    private static void ring(SlipHeaps x, int k, int a, int b, int c, int takes) {
        int[] due = {a, b, c, takes};
        for (int what = 0; what < 4; what++) {
            int w = what;
            Due.is("ring(" + k + ", " + w + ")", () -> x.ring(k, w), due[w]);
        }
    }

    private static void ringsAre() {
        int never = SlipHeaps.VOID;
        Cases.says(Cases.TERMS, "RINGS: three ENTRIES a, b, c (rising), of whose PAIRS two have WEIGHTS above 0 and the third is below 0 or NEVER");
        int[][] due = {{1, 1, -1, 1}, {1, -1, 1, 1}, {-1, 1, 1, 1}, {1, 1, never, 1}, {1, never, 1, 1}, {never, 1, 1, 1},
            {1, 1, 0, 0}, {1, 1, 1, 0}, {0, 1, -1, 0}, {1, 0, -1, 0}, {1, -1, -1, 0}, {-1, -1, -1, 0}, {1, never, -1, 0},
            {1, never, never, 0}, {never, never, never, 0}, {0, 0, -1, 0}, {0, 0, 0, 0}, {0, 1, never, 0}};
        for (int[] d : due) {
            SlipHeaps x = three(d[0], d[1], d[2]);
            Due.is("rings of " + d[0] + " " + d[1] + " " + d[2], x::rings, d[3]);
            Due.is("bound", x::bound, d[3]);
        }

        Cases.says(Cases.TERMS, "(FIXED ones and LAWS left aside).");
        SlipHeaps x = three(5, 6, -7);
        x.fix(0, 1, false);
        x.fix(0, 2, true);
        x.law(0, 1);
        x.law(1, 1);
        x.law(2, 0);
        x.join(0, 2);
        Due.is("rings", x::rings, 1);
        Due.is("bound", x::bound, 5);
        Due.is("told", () -> x.told(0, 1, 2, 5), 5);
        SlipHeaps y = three(5, 6, 0);
        y.fix(0, 2, false);
        Due.is("fixed apart is no ring", y::rings, 0);
    }

    private static void rests() {
        Cases.says(Cases.TERMS, "REST of a PAIR: the amount of its WEIGHT (NEVER: 1,000,000) at first.");
        ring(three(5, 6, -7), 0, 0, 1, 2, 5);
        ring(three(7, 6, -5), 0, 0, 1, 2, 5);
        ring(three(7, 5, -6), 0, 0, 1, 2, 5);
        ring(three(10000, 10000, -10000), 0, 0, 1, 2, 10000);
        ring(three(10000, 9999, SlipHeaps.VOID), 0, 0, 1, 2, 9999);
        SlipHeaps x = Due.alike(30);
        Due.rules(x, "for 9999;for 1;");
        x.weigh(0, 1, SlipHeaps.VOID);
        Due.is("a never in 28 rings of 10,000", x::bound, 280000);
        Due.is("28", x::rings, 28);
        Due.is("told one of more", () -> x.told(0, 1, 2, 10001), -2);
        for (int i = 2; i < 30; i++) {
            int c = i;
            Due.is("told of " + i, () -> x.told(c, 0, 1, 10000), 10000 * (i - 1));
        }
        SlipHeaps y = Due.alike(30);
        Due.rules(y, "for 9999;for 1;");
        y.weigh(0, 1, -10000);
        Due.is("-10,000 in one of 28", y::bound, 10000);
        Due.is("28 still", y::rings, 28);
    }

    private static void packed() {
        Cases.says(Cases.TERMS, "PACKED: all RINGS by a, b, c: each takes the least of the three RESTS from all three");
        SlipHeaps x = weighed(4, new int[] {0, 1, 10}, new int[] {0, 2, -4}, new int[] {1, 2, 7}, new int[] {0, 3, -8},
            new int[] {1, 3, 9}, new int[] {2, 3, -20});
        ring(x, 0, 0, 1, 2, 4);
        ring(x, 1, 0, 1, 3, 6);
        ring(x, 2, 1, 2, 3, 3);
        ring(x, 3, -1, -1, -1, -1);
        SlipHeaps y = weighed(5, new int[] {3, 4, -9}, new int[] {0, 3, 2}, new int[] {0, 4, 3}, new int[] {1, 3, 4}, new int[] {1, 4, 5},
            new int[] {2, 3, 6}, new int[] {2, 4, 7});
        ring(y, 0, 0, 3, 4, 2);
        ring(y, 1, 1, 3, 4, 4);
        ring(y, 2, 2, 3, 4, 3);

        Cases.says(Cases.TERMS, "; BOUND is what all have taken.");
        Due.is("4, 6 and 3", x::bound, 13);
        Due.is("2, 4 and 3", y::bound, 9);
        Due.is("asked again", y::bound, 9);
        Due.is("of none", () -> new SlipHeaps().bound(), 0);
        Due.is("no heaping costs less", () -> x.best(0) >= 13, 1);
    }

    private static SlipHeaps pyramid() {
        return weighed(4, new int[] {0, 1, 100}, new int[] {1, 2, 60}, new int[] {0, 2, -50}, new int[] {1, 3, 40}, new int[] {0, 3, -30});
    }

    private static void toldOnes() {
        Cases.says(Cases.TERMS, "TOLD RINGS, 40 at most");
        SlipHeaps x = three(100, 100, -100);
        for (int i = 1; i <= 40; i++) {
            Due.is("told " + i, () -> x.told(0, 1, 2, 1), i);
        }
        Due.is("a 41st", () -> x.told(0, 1, 2, 1), -3);
        Due.is("40 are there", () -> x.count(6), 40);
        x.like(0, 1, 5);
        Due.is("none then", () -> x.count(6), 0);
        Due.is("room again", () -> x.told(0, 1, 2, 100), 100);

        Cases.says(Cases.TERMS, ": three ENTRIES, an amount, which RESTS (other ones, of TOLD RINGS alone) must have");
        SlipHeaps y = pyramid();
        Due.is("packed takes it all", y::bound, 80);
        Due.is("more than there is", () -> y.told(0, 1, 2, 51), -2);
        Due.is("all there is", () -> y.told(0, 1, 2, 50), 50);
        Due.is("packed is as it was", y::bound, 80);
        ring(y, 0, 0, 1, 2, 50);

        Cases.says(Cases.TERMS, "; they take it");
        Due.is("nothing is left", () -> y.told(0, 1, 2, 1), -2);
        Due.is("of 50 that are left", () -> y.told(0, 1, 3, 31), -2);
        Due.is("30", () -> y.told(0, 1, 3, 30), 80);
        SlipHeaps z = three(9, 8, -7);
        Due.is("3", () -> z.told(0, 1, 2, 3), 3);
        Due.is("4 are left, not 5", () -> z.told(0, 1, 2, 5), -2);
        Due.is("4", () -> z.told(0, 1, 2, 4), 7);

        Cases.says(Cases.TERMS, "; TOLD BOUND likewise.");
        Due.is("what all have taken", () -> y.told(0, 1, 2, 51), -2);
        SlipHeaps w = pyramid();
        Due.is("7", () -> w.told(0, 1, 2, 7), 7);
        Due.is("7 and 8", () -> w.told(0, 1, 3, 8), 15);
        Due.is("7 and 8 and 1", () -> w.told(0, 1, 2, 1), 16);
    }

    private interface Change {
        Object on(SlipHeaps x);
    }

    /** Whether TOLD RINGS, what they took, and their BOUND stand behind the call, which answers as is due. */
    private static void behind(String what, boolean stand, Object due, Change change) {
        SlipHeaps x = pyramid();
        Due.rules(x, "for 0;");
        x.told(0, 1, 2, 50);
        x.told(0, 1, 3, 20);
        Due.is(what, () -> change.on(x), due);
        Due.is("told rings behind " + what, () -> x.count(6), stand ? 2 : 0);
        Due.is("no more than all behind " + what, () -> x.told(0, 1, 3, 31), -2);
        Due.is("rest behind " + what, () -> x.told(0, 1, 3, 11), stand ? -2 : 11);
        Due.is("bound behind " + what, () -> x.told(0, 1, 3, 10), stand ? 80 : 21);
    }

    private static void gone() {
        Cases.says(Cases.TERMS, "(What was TOLD is gone, if a WEIGHT, or a NEVER, of any PAIR may have changed: by RULES");
        behind("rules of none", false, 0, x -> x.rules(0));
        behind("rules", false, 1, x -> Due.rules(x, "for 0;"));
        behind("rules that change", false, 1, x -> Due.rules(x, "for 1;"));
        behind("a fault 1", true, -9, x -> Due.rules(x, "for 1"));
        behind("a fault 2", true, -8, x -> Due.rules(x, "for 10000;"));
        behind("a fault 3", true, -7, x -> Due.rules(x, "for (((((((1)))))));"));
        behind("rules beyond the tape", true, Due.ILLEGAL, x -> x.rules(1));
        behind("feed", true, 20, x -> x.feed(0, 0, 0, 0, 0));

        Cases.says(Cases.TERMS, ", LIKE");
        behind("like", false, 0, x -> x.like(0, 1, 5));
        behind("like of names of none", false, 0, x -> x.like(7, 8, 9));
        behind("like of one name", true, -1, x -> x.like(0, 0, 5));
        behind("like beyond", true, Due.ILLEGAL, x -> x.like(0, 1, 101));

        Cases.says(Cases.TERMS, ", by hand");
        behind("weigh", false, 1, x -> x.weigh(2, 3, 5));
        behind("weigh in place", false, 0, x -> x.weigh(0, 1, 99));
        SlipHeaps once = three(5, 6, -7);
        Due.is("one that takes all", () -> once.told(0, 1, 2, 5), 5);
        once.weigh(0, 2, -7);
        Due.is("all is there again", () -> once.told(0, 1, 2, 5), 5);
        behind("never", false, 1, x -> x.weigh(2, 3, SlipHeaps.VOID));
        behind("weigh beyond", true, Due.ILLEGAL, x -> x.weigh(2, 3, 10001));
        behind("weigh of none", true, Due.NO_SUCH, x -> x.weigh(2, 4, 5));
        behind("forget of nothing", true, 0, x -> x.forget(2, 3));
        behind("forget", false, 1, x -> {
            x.weigh(2, 3, 5);
            x.told(0, 1, 2, 50);
            x.told(0, 1, 3, 20);
            return x.forget(2, 3);
        });
        SlipHeaps full = Due.alike(12);
        for (int i = 0; i < 12; i++) {
            for (int j = i + 1; j < 12; j++) {
                full.weigh(i, j, i < 2 && j == i + 1 ? 3 : -1);
            }
        }
        Due.is("60 are told", () -> full.count(2), 60);
        Due.is("a ring", () -> full.told(0, 1, 2, 1), 1);
        Due.is("a 61st", () -> full.weigh(10, 11, 5), -1);
        Due.is("the told one stands", () -> full.count(6), 1);

        Cases.says(Cases.TERMS, ", by a new ENTRY.)");
        behind("entry", false, 4, x -> x.entry(0, 0, 0, 0, -1));
        behind("entry beyond", true, Due.ILLEGAL, x -> x.entry(8, 0, 0, 0, -1));
        SlipHeaps thirty = weighed(30, new int[] {0, 1, 5}, new int[] {1, 2, 5}, new int[] {0, 2, -5});
        thirty.told(0, 1, 2, 5);
        Due.is("a 31st", () -> thirty.entry(0, 0, 0, 0, -1), -1);
        Due.is("the told one stands", () -> thirty.count(6), 1);
        behind("fix", true, 1, x -> x.fix(0, 1, true));
        behind("loose", true, 0, x -> x.loose(0, 1));
        behind("law", true, 0, x -> x.law(0, 1));
        behind("take", true, 1, SlipHeaps::take);
        behind("grow", true, 1, x -> x.grow(1));
        behind("hand", true, 0, x -> x.join(0, 1));
        behind("mark", true, 1, SlipHeaps::mark);
    }

    private static void bound() {
        Cases.says(23, "BOUND.");
        SlipHeaps x = three(3, 4, -5);
        Due.is("3", x::bound, 3);
        x.weigh(0, 1, 6);
        Due.is("4", x::bound, 4);
        x.told(0, 1, 2, 1);
        Due.is("what is told is another", x::bound, 4);
        x.weigh(0, 2, 0);
        Due.is("0", x::bound, 0);
    }

    private static void ring() {
        Cases.says(24, "The k-th RING that takes something, PACKED: what 0 to 2 its ENTRIES, 3 what it takes");
        SlipHeaps x = weighed(4, new int[] {0, 1, 4}, new int[] {0, 2, -4}, new int[] {1, 2, 7}, new int[] {0, 3, -8},
            new int[] {1, 3, 9}, new int[] {2, 3, -20});
        ring(x, 0, 0, 1, 2, 4);
        ring(x, 1, 1, 2, 3, 3);
        Due.is("0 1 3 takes nothing", x::rings, 3);
        Cases.says(24, "; NONE: there is none.");
        for (int k : new int[] {2, 3, -1, FAR[0], FAR[1]}) {
            ring(x, k, -1, -1, -1, -1);
        }
        ring(new SlipHeaps(), 0, -1, -1, -1, -1);
        Cases.says(24, "IllegalArgumentException: another what.");
        for (int what : new int[] {-1, 4, FAR[0], FAR[1]}) {
            Due.is("of a ring", () -> x.ring(0, what), Due.ILLEGAL);
            Due.is("of none", () -> x.ring(2, what), Due.ILLEGAL);
            Due.is("of none below 0", () -> x.ring(-1, what), Due.ILLEGAL);
        }
    }

    private static void rings() {
        Cases.says(25, "How many RINGS there are.");
        Due.is("none", () -> Due.alike(30).rings(), 0);
        SlipHeaps x = Due.alike(30);
        Due.rules(x, "against 1;");
        x.weigh(0, 1, 1);
        x.weigh(0, 2, 1);
        Due.is("one", x::rings, 1);
        x.weigh(0, 29, 1);
        Due.is("three", x::rings, 3);
        x.weigh(28, 29, 1);
        Due.is("four", x::rings, 4);
        SlipHeaps y = Due.alike(30);
        Due.rules(y, "for 1;");
        y.weigh(28, 29, SlipHeaps.VOID);
        Due.is("each other one with 28 and 29", y::rings, 28);
    }

    private static void told() {
        SlipHeaps x = pyramid();
        Cases.says(26, "A RING is TOLD: TOLD BOUND then");
        Due.is("one", () -> x.told(0, 1, 2, 10), 10);
        Due.is("another", () -> x.told(0, 1, 3, 5), 15);
        Due.is("the first again", () -> x.told(0, 1, 2, 1), 16);
        Due.is("how many", () -> x.count(6), 3);

        Cases.says(26, "; -1: it is no RING (in any order)");
        int[][] orders = {{0, 1, 2}, {0, 2, 1}, {1, 0, 2}, {1, 2, 0}, {2, 0, 1}, {2, 1, 0}};
        for (int[] o : orders) {
            Due.is("of 0 1 2", () -> pyramid().told(o[0], o[1], o[2], 50), 50);
            Due.is("of 1 2 3", () -> pyramid().told(1 + o[0], 1 + o[1], 1 + o[2], 1), -1);
        }
        Due.is("of 0 2 3", () -> x.told(0, 2, 3, 1), -1);

        Cases.says(26, ", -2: RESTS have less");
        Due.is("39 are left", () -> x.told(2, 1, 0, 40), -2);
        Due.is("39", () -> x.told(2, 1, 0, 39), 55);
        Due.is("1,000,000", () -> x.told(2, 1, 0, 1000000), -2);

        Cases.says(26, ", -3: there are 40");
        SlipHeaps y = three(50, 50, -50);
        y.entry(0, 0, 0, 0, -1);
        for (int i = 1; i <= 40; i++) {
            Due.is("told " + i, () -> y.told(0, 2, 1, 1), i);
        }
        Due.is("a 41st", () -> y.told(0, 1, 2, 10), -3);

        Cases.says(26, "(the first of these).");
        Due.is("less is ahead of 40", () -> y.told(0, 1, 2, 11), -2);
        Due.is("no ring is ahead of 40", () -> y.told(0, 1, 3, 1), -1);
        Due.is("no ring is ahead of less", () -> y.told(0, 1, 3, 1000000), -1);
        Due.is("40 are there", () -> y.count(6), 40);
        Due.is("10 are left still", () -> y.told(0, 1, 2, 10), -3);

        Cases.says(26, "IllegalArgumentException: two ENTRIES are one, or the amount is not 1 to 1,000,000.");
        for (int amount : new int[] {0, -1, 1000001, FAR[0], FAR[1]}) {
            Due.is("amount " + amount, () -> x.told(0, 1, 3, amount), Due.ILLEGAL);
            Due.is("of no ring " + amount, () -> x.told(0, 2, 3, amount), Due.ILLEGAL);
            Due.is("of 40 " + amount, () -> y.told(0, 1, 2, amount), Due.ILLEGAL);
            Due.is("of none " + amount, () -> x.told(0, 1, 4, amount), Due.NO_SUCH);
        }
        Due.is("the first two", () -> x.told(0, 0, 1, 1), Due.ILLEGAL);
        Due.is("the last two", () -> x.told(0, 1, 1, 1), Due.ILLEGAL);
        Due.is("the first and the last", () -> x.told(0, 1, 0, 1), Due.ILLEGAL);
        Due.is("all", () -> x.told(1, 1, 1, 1), Due.ILLEGAL);
        for (int e : new int[] {-1, 4, FAR[0], FAR[1]}) {
            Due.is("the first", () -> x.told(e, 1, 2, 1), Due.NO_SUCH);
            Due.is("the second", () -> x.told(0, e, 2, 1), Due.NO_SUCH);
            Due.is("the third", () -> x.told(0, 1, e, 1), Due.NO_SUCH);
            Due.is("all", () -> x.told(e, e, e, 0), Due.NO_SUCH);
        }
        Due.is("nothing was told", () -> x.count(6), 4);
        Due.is("as much is left", () -> x.told(0, 1, 3, 25), 80);
    }
}
