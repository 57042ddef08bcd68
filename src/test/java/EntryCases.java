/** Cases of the use of an object, of ENTRIES and LIKE, and of promises 1 to 4. */
final class EntryCases {
    private static final int[] FAR = {Integer.MIN_VALUE, Integer.MAX_VALUE};

    private EntryCases() {
    }

    static void run() {
        use();
        entries();
        traits();
        likes();
        pairsAndConstants();
        newObject();
        entry();
        of();
        like();
    }

    private static void use() {
        Cases.says(Cases.USE, "An object is used for at most 512 calls after it has been made",
            "what later calls answer is free.");
        SlipHeaps x = Due.alike(30);
        for (int i = 1; i < 30; i++) {
            x.weigh(0, i, i);
        }
        for (int i = 0; i < 450; i++) {
            int n = i;
            Due.is("call " + (60 + i), () -> x.like(0, 1, n % 101), i == 0 ? 0 : (i - 1) % 101);
        }
        Due.is("call 510", x::mark, 1);
        Due.is("call 511", x::cost, 435);
        Due.is("call 512", () -> x.entry(0, 0, 0, 0, -1), -1);
    }

    private static void entries() {
        Cases.says(Cases.TERMS, "ENTRIES, numbered from 0 on, 30 at most");
        SlipHeaps x = new SlipHeaps();
        for (int i = 0; i < 30; i++) {
            int n = i;
            Due.is("before entry " + i, () -> x.of(n, 0), Due.NO_SUCH);
            Due.is("entry " + i, () -> x.entry(n % 8, n % 16, n % 8, n, n % 16), i);
            Due.is("its year", () -> x.of(n, 3), i);
        }
        Due.is("a 31st", () -> x.entry(0, 0, 0, 0, -1), -1);
        Due.is("is not there", () -> x.of(30, 0), Due.NO_SUCH);
        Due.is("how many", () -> x.count(0), 30);
    }

    /** A trait's ends stand, and what is beyond them is refused and leaves no ENTRY. */
    private static void trait(int which, int low, int high) {
        SlipHeaps x = new SlipHeaps();
        for (int v : new int[] {low - 1, high + 1, FAR[0], FAR[1]}) {
            int[] t = new int[5];
            t[which] = v;
            Due.is("trait of " + v, () -> x.entry(t[0], t[1], t[2], t[3], t[4]), Due.ILLEGAL);
        }
        Due.is("no entry came", () -> x.count(0), 0);
        for (int v : new int[] {low, high}) {
            int[] t = new int[5];
            t[which] = v;
            Due.is("trait of " + v, () -> x.entry(t[0], t[1], t[2], t[3], t[4]), v == low ? 0 : 1);
            Due.is("kept", () -> x.of(v == low ? 0 : 1, which), v);
        }
    }

    private static void traits() {
        Cases.says(Cases.TERMS, ": a BOOK (0 to 7)");
        trait(0, 0, 7);
        Cases.says(Cases.TERMS, ", NAME (0 to 15)");
        trait(1, 0, 15);
        Cases.says(Cases.TERMS, ", TRADE (0 to 7)");
        trait(2, 0, 7);
        Cases.says(Cases.TERMS, ", YEAR (0 to 199)");
        trait(3, 0, 199);
        Cases.says(Cases.TERMS, ", FATHER (0 to 15, or NONE: not known).");
        trait(4, -1, 15);
        SlipHeaps x = new SlipHeaps();
        int[] fathers = {0, 0, 15, -1, -1};
        for (int f : fathers) {
            x.entry(0, 0, 0, 0, f);
        }
        Due.rules(x, "for 2*father+other;");
        Due.is("father 0 is known", () -> x.weight(0, 1), 2);
        Due.is("and is not 15", () -> x.weight(0, 2), 1);
        Due.is("NONE is not known", () -> x.weight(2, 3), 0);
        Due.is("twice not", () -> x.weight(3, 4), 0);
    }

    private static void likes() {
        Cases.says(Cases.TERMS, "LIKE of two NAMES: 0 to 100");
        SlipHeaps x = new SlipHeaps();
        x.entry(0, 0, 0, 0, -1);
        x.entry(0, 15, 0, 0, -1);
        x.entry(0, 15, 0, 0, -1);
        Due.rules(x, "for like;");
        for (int v : new int[] {-1, 101, FAR[0], FAR[1]}) {
            Due.is("like " + v, () -> x.like(0, 15, v), Due.ILLEGAL);
        }
        Due.is("nothing came of it", () -> x.weight(0, 1), 0);
        Due.is("100", () -> x.like(0, 15, 100), 0);
        Due.is("100 stands", () -> x.weight(0, 1), 100);
        Due.is("0", () -> x.like(0, 15, 0), 100);
        Due.is("0 stands", () -> x.weight(0, 1), 0);

        Cases.says(Cases.TERMS, "(0 at first");
        SlipHeaps y = new SlipHeaps();
        for (int i = 0; i < 16; i++) {
            for (int j = i + 1; j < 16; j++) {
                int a = i;
                int b = j;
                Due.is("like of " + i + " and " + j, () -> y.like(a, b, 1 + a), 0);
            }
        }
        for (int i = 0; i < 15; i++) {
            int a = i;
            Due.is("each has its own", () -> y.like(15, a, 0), 1 + i);
        }

        Cases.says(Cases.TERMS, "; of a NAME to itself 100 always");
        Due.is("100 at first", () -> x.weight(1, 2), 100);
        Due.is("can't be told", () -> x.like(15, 15, 7), -1);
        Due.is("100 then", () -> x.weight(1, 2), 100);

        Cases.says(Cases.TERMS, "; both ways alike).");
        Due.is("one way", () -> x.like(15, 0, 44), 0);
        Due.is("the other way", () -> x.like(0, 15, 45), 44);
        Due.is("of the pair", () -> x.weight(0, 1), 45);
        Due.is("of the pair turned round", () -> x.weight(1, 0), 45);
    }

    private static void pairsAndConstants() {
        Cases.says(Cases.TERMS, "A PAIR are two ENTRIES that are not one.");
        SlipHeaps x = Due.alike(30);
        for (int e : new int[] {0, 29}) {
            Due.is("weight", () -> x.weight(e, e), Due.ILLEGAL);
            Due.is("why", () -> x.why(e, e), Due.ILLEGAL);
            Due.is("weigh", () -> x.weigh(e, e, 1), Due.ILLEGAL);
            Due.is("forget", () -> x.forget(e, e), Due.ILLEGAL);
            Due.is("fix", () -> x.fix(e, e, true), Due.ILLEGAL);
            Due.is("loose", () -> x.loose(e, e), Due.ILLEGAL);
            Due.is("put", () -> x.put(e, e), Due.ILLEGAL);
            Due.is("always", () -> x.always(e, e), Due.ILLEGAL);
            Due.is("edge", () -> x.edge(e, e), Due.ILLEGAL);
            Due.is("holds", () -> x.holds(e, e, 0), Due.ILLEGAL);
        }
        Due.is("nothing was told or fixed", () -> x.count(2) + x.count(3), 0);

        Cases.says(Cases.TERMS, "The constants: `VOID = Integer.MIN_VALUE`: What can't be told by a number.");
        Due.is("VOID", () -> SlipHeaps.VOID, -2147483648);
        Due.is("NONE", () -> SlipHeaps.NONE, -1);
    }

    private static void newObject() {
        Cases.says(1, "No ENTRIES");
        SlipHeaps x = new SlipHeaps();
        Due.is("how many", () -> x.count(0), 0);
        Due.is("the first", () -> x.of(0, 0), Due.NO_SUCH);
        Due.is("a second object has its own", () -> Due.alike(3).count(0) * 10 + new SlipHeaps().count(0), 30);

        Cases.says(1, ", no RULES.");
        Due.is("clauses", () -> x.count(1), 0);
        x.entry(0, 0, 0, 0, -1);
        x.entry(0, 0, 0, 0, -1);
        Due.is("a pair's weight", () -> x.weight(0, 1), 0);
        Due.is("a pair's why", () -> x.why(0, 1), 0);
        Due.is("not passed", () -> x.count(9), 0);
    }

    private static void entry() {
        Cases.says(2, "An ENTRY: its number");
        SlipHeaps x = new SlipHeaps();
        Due.is("the first", () -> x.entry(7, 15, 7, 199, 15), 0);
        Due.is("the second, alike", () -> x.entry(7, 15, 7, 199, 15), 1);

        Cases.says(2, "; -1: there are 30.");
        SlipHeaps y = Due.alike(29);
        Due.is("the 30th", () -> y.entry(1, 2, 3, 4, 5), 29);
        Due.is("a 31st", () -> y.entry(6, 6, 6, 6, 6), -1);
        Due.is("a 32nd", () -> y.entry(6, 6, 6, 6, 6), -1);
        Due.is("the 30th is as it was", () -> y.of(29, 0) * 1000 + y.of(29, 3), 1004);
        Due.is("the first too", () -> y.of(0, 3), 0);

        Cases.says(2, "IllegalArgumentException: one is none such (so below).");
        Due.is("of 30 too", () -> y.entry(0, 16, 0, 0, -1), Due.ILLEGAL);
        Due.is("all of them", () -> x.entry(-1, -1, -1, -1, -2), Due.ILLEGAL);
        Due.is("the last", () -> x.entry(0, 0, 0, 0, 16), Due.ILLEGAL);
        Due.is("no entry came", () -> x.count(0), 2);
        Due.is("nor a gap", () -> x.entry(0, 0, 0, 0, 0), 2);
    }

    private static void of() {
        SlipHeaps x = new SlipHeaps();
        x.entry(1, 2, 3, 4, 5);
        x.entry(7, 15, 6, 199, 14);
        x.entry(0, 0, 0, 0, -1);
        Cases.says(3, "Of an ENTRY: 0 BOOK, 1 NAME, 2 TRADE, 3 YEAR, 4 FATHER");
        int[][] due = {{1, 2, 3, 4, 5}, {7, 15, 6, 199, 14}, {0, 0, 0, 0, -1}};
        for (int e = 0; e < 3; e++) {
            for (int w = 0; w < 5; w++) {
                int entry = e;
                int what = w;
                Due.is("of(" + e + ", " + w + ")", () -> x.of(entry, what), due[e][w]);
            }
        }

        Cases.says(3, "5 its HEAP in HAND");
        Due.is("alone", () -> x.of(2, 5), 2);
        x.join(2, 1);
        Due.is("with 1", () -> x.of(2, 5), 1);

        Cases.says(3, "6 its PART (the least ENTRY of it)");
        Due.is("a part of its own", () -> x.of(2, 6), 2);
        x.weigh(2, 0, 1);
        Due.is("that of 0", () -> x.of(2, 6), 0);
        Due.is("0's", () -> x.of(0, 6), 0);
        Due.is("1's", () -> x.of(1, 6), 1);

        Cases.says(3, "7 how many that PART has.");
        Due.is("two", () -> x.of(2, 7), 2);
        Due.is("one", () -> x.of(1, 7), 1);
        SlipHeaps y = Due.alike(30);
        Due.rules(y, "for 1;");
        Due.is("thirty", () -> y.of(29, 7), 30);
        Due.is("by the least of all", () -> y.of(29, 6), 0);

        Cases.says(3, "NoSuchElementException: no such ENTRY (so below)");
        for (int e : new int[] {-1, 3, FAR[0], FAR[1]}) {
            for (int w = -1; w < 9; w++) {
                int what = w;
                Due.is("of(" + e + ", " + w + ")", () -> x.of(e, what), Due.NO_SUCH);
            }
        }
        Due.is("of the 31st of 30", () -> y.of(30, 0), Due.NO_SUCH);

        Cases.says(3, "IllegalArgumentException: another what.");
        for (int what : new int[] {-1, 8, FAR[0], FAR[1]}) {
            Due.is("of(0, " + what + ")", () -> x.of(0, what), Due.ILLEGAL);
        }
    }

    private static void like() {
        Cases.says(4, "LIKE of two NAMES: what it was");
        SlipHeaps x = new SlipHeaps();
        Due.is("at first", () -> x.like(0, 15, 60), 0);
        Due.is("then", () -> x.like(0, 15, 60), 60);
        Due.is("as it was last", () -> x.like(0, 15, 1), 60);
        Due.is("another pair's", () -> x.like(0, 14, 2), 0);

        Cases.says(4, "; -1: they are one.");
        for (int n : new int[] {0, 15}) {
            Due.is("one name", () -> x.like(n, n, 100), -1);
            Due.is("one name and 0", () -> x.like(n, n, 0), -1);
        }
        int[][] wrong = {{-1, 1, 5}, {16, 1, 5}, {1, -1, 5}, {1, 16, 5}, {0, 1, -1}, {0, 1, 101}, {16, 16, 5}, {3, 3, 101}};
        for (int[] w : wrong) {
            Due.is("none such", () -> x.like(w[0], w[1], w[2]), Due.ILLEGAL);
        }
    }
}
