/** Cases of ASKED, NEAR, WITHOUT and STANDS, and of promises 35 to 39 and 42. */
final class BestCases {
    private static final int[] FAR = {Integer.MIN_VALUE, Integer.MAX_VALUE};

    private BestCases() {
    }

    static void run() {
        asked();
        near();
        without();
        askedCall();
        nearCalls();
        withoutCalls();
        count();
    }

    private static SlipHeaps weighed(int n, int[]... told) {
        return PartCases.weighed(n, told);
    }

    private static String nearest(SlipHeaps x, int m) {
        StringBuilder s = new StringBuilder();
        for (int i = 0; i < x.count(0); i++) {
            s.append(x.nearest(i, m)).append(' ');
        }
        return s.toString().trim();
    }

    /** BEST ones: all in one; 1 alone; 0 alone. */
    private static SlipHeaps square() {
        return weighed(4, new int[] {0, 1, -1}, new int[] {0, 2, 2}, new int[] {0, 3, -1}, new int[] {1, 2, 1}, new int[] {2, 3, 2});
    }

    private static void asked() {
        Cases.says(Cases.TERMS, "ASKED of a PART: of all FREE PAIRS the one for which, when it is settled, in the worse case (of both) the fewest PAIRS are FREE in those BEST ones that are left");
        SlipHeaps x = square();
        Due.is("three best ones", () -> x.many(0), 3);
        Due.is("0 1 is free, but leaves four if apart", () -> x.always(0, 1), 0);
        Due.is("2 3 is not free", () -> x.always(2, 3), 1);
        Due.is("0 2 leaves three if together", () -> x.asked(0), 2);
        SlipHeaps two = weighed(4, new int[] {0, 1, 1}, new int[] {0, 3, 1}, new int[] {1, 3, -2}, new int[] {2, 3, 1});
        Due.is("0 1, 2 3 or 0 2 3, 1: each of three free ones leaves none", () -> two.many(0) * 100 + two.asked(0), 201);
        SlipHeaps round = weighed(4, new int[] {0, 1, 1}, new int[] {0, 2, 1}, new int[] {1, 3, -1}, new int[] {2, 3, 1});
        Due.is("all, 0 2 3, 0 1 2, or 0 1 and 2 3: 0 3 and 1 2 halve them, 0 1 does not", () -> round.many(0) * 100 + round.asked(0), 403);
        SlipHeaps ring = weighed(3, new int[] {0, 1, -1}, new int[] {0, 2, 1}, new int[] {1, 2, 1});
        Due.is("all, 0 2 or 1 2: two are left in the worse case of each", () -> ring.many(0) * 100 + ring.asked(0), 301);
        SlipHeaps tail = weighed(4, new int[] {0, 1, 1}, new int[] {0, 2, -1}, new int[] {1, 2, 1}, new int[] {2, 3, 1});
        Due.is("all, 0 1 and 2 3, or 1 2 3", () -> tail.many(0) * 100 + tail.asked(0), 302);
        SlipHeaps fan = weighed(4, new int[] {0, 1, -2}, new int[] {0, 3, 2}, new int[] {1, 3, 2}, new int[] {2, 3, 2});
        Due.is("all, 0 2 3 or 1 2 3", () -> fan.many(0) * 100 + fan.asked(0), 302);

        Cases.says(Cases.TERMS, "; of these the first (by the lesser, then by the other).");
        SlipHeaps y = weighed(4, new int[] {1, 2, 5}, new int[] {2, 3, 5}, new int[] {1, 3, -5});
        Due.is("1 2, 1 3, 2 3 are alike", () -> y.asked(3), 32 + 2);
        y.fix(1, 2, true);
        Due.is("1 3 and 2 3 are alike", () -> y.asked(3), 32 + 3);
        y.loose(1, 2);
        y.fix(1, 3, false);
        Due.is("1 2 and 2 3 are alike", () -> y.asked(3), 32 + 2);
        y.loose(1, 3);
        y.fix(2, 3, true);
        Due.is("1 2 and 1 3 are alike", () -> y.asked(1), 32 + 2);
    }

    private static void near() {
        Cases.says(Cases.TERMS, "NEAR of a PART by a sum m: of all its LAWFUL HEAPINGS that cost m more than BEST at most");
        SlipHeaps x = weighed(3, new int[] {0, 1, 10}, new int[] {1, 2, 4}, new int[] {0, 2, -6});
        Due.is("all alone costs ten more: 9", () -> x.near(0, 9) * 1000 + x.nearest(1, 9), 1000);
        Due.is("10", () -> x.near(0, 10) * 1000 + x.nearest(1, 10), 1);
        x.law(0, 1);
        Due.is("there is one lawful", () -> x.near(0, 0), 0);
        x.law(0, 2);
        x.join(0, 1);
        x.join(0, 2);
        Due.is("hand is not lawful", () -> x.near(0, 100000), 2);

        Cases.says(Cases.TERMS, " those in which the fewest PAIRS lie otherwise than in HAND (together or apart)");
        SlipHeaps y = weighed(4, new int[] {0, 1, 5}, new int[] {1, 2, 5}, new int[] {0, 2, -5}, new int[] {2, 3, -1});
        Due.is("hand alone: 0 with 1", () -> y.near(0, 0) + " " + nearest(y, 0), "1 0 0 2 3");
        y.join(1, 2);
        Due.is("1 with 2", () -> y.near(0, 0) + " " + nearest(y, 0), "0 0 1 1 3");
        y.join(0, 1);
        Due.is("all", () -> y.near(0, 0) + " " + nearest(y, 0), "0 0 0 0 3");
        y.put(0, 3);
        Due.is("pairs of another part are none", () -> y.near(0, 0) + " " + nearest(y, 0), "0 0 1 1 3");

        Cases.says(Cases.TERMS, "; of these the FIRST.");
        SlipHeaps z = weighed(3, new int[] {0, 1, 5}, new int[] {1, 2, 5}, new int[] {0, 2, -5});
        Due.is("0 with 1 is as near as 1 with 2", () -> z.near(2, 0) + " " + nearest(z, 0), "1 0 0 2");
        z.join(0, 2);
        Due.is("two otherwise each, but one three", () -> z.near(2, 0) + " " + nearest(z, 0), "2 0 0 0");
    }

    private static void without() {
        Cases.says(Cases.TERMS, "WITHOUT a BOOK: PARTS, BEST, FIRST of all other ENTRIES.");
        SlipHeaps x = new SlipHeaps();
        for (int book : new int[] {0, 1, 2, 0}) {
            x.entry(book, 0, 0, 0, -1);
        }
        x.weigh(0, 1, 5);
        x.weigh(1, 2, 4);
        x.weigh(0, 2, -3);
        x.weigh(2, 3, -2);
        x.fix(1, 3, true);
        Due.is("all: 0 1 3 and 2", x::all, 4);
        Due.is("without 0: 1 2", () -> x.without(0), 0);
        Due.is("without 1: 0, 2 and 3 by themselves", () -> x.without(1), 0);
        Due.is("without 2: 0 1 3", () -> x.without(2), 0);
        Due.is("without a book of none", () -> x.without(7), 4);
        x.law(0, 2);
        Due.is("the laws bind them: 1 3 and 0", () -> x.without(2), 5);
        SlipHeaps ten = PartCases.chain(10);
        ten.entry(5, 0, 0, 0, -1);
        ten.weigh(9, 10, 1);
        Due.is("11 without one", () -> ten.all() * 10 + ten.without(5), -20);

        Cases.says(Cases.TERMS, "STANDS: how many HEAPS of the FIRST of all (with ENTRIES of that BOOK left out");
        SlipHeaps y = new SlipHeaps();
        for (int book : new int[] {0, 1, 2, 0, 3, 4}) {
            y.entry(book, 0, 0, 0, -1);
        }
        int[][] told = {{0, 1, 5}, {0, 2, 5}, {1, 2, -3}, {2, 3, -9}, {3, 4, 7}, {4, 5, SlipHeaps.VOID}, {3, 5, 6}};
        for (int[] t : told) {
            y.weigh(t[0], t[1], t[2]);
        }
        Due.is("first", () -> PartCases.firsts(y), "0 0 0 3 3 5");
        Due.is("without 1: 0 2, 3 4 and 5", () -> y.stands(1), 3);
        Due.is("without 2: 0 1, 3 4 and 5", () -> y.stands(2), 3);

        Cases.says(Cases.TERMS, ", those that are empty then, too)");
        Due.is("without 4: 0 1 2 and 3 4, and no empty one", () -> y.stands(4), 2);
        Due.is("of one book nothing stands", () -> Due.alike(3).stands(0), 0);

        Cases.says(Cases.TERMS, "are HEAPS of the FIRST WITHOUT it.");
        Due.is("without 0: 1 2 is none, 4 and 5 are", () -> y.stands(0), 2);
        Due.is("without 3: 3 5 are together then", () -> y.stands(3), 1);
        Due.is("without none: all", () -> y.stands(7), 3);
    }

    private static void askedCall() {
        Cases.says(35, "ASKED of an ENTRY's PART: 32 times the lesser and the other");
        SlipHeaps x = Due.alike(30);
        x.weigh(27, 28, 5);
        x.weigh(28, 29, 5);
        x.weigh(27, 29, -5);
        Due.is("27 28", () -> x.asked(29), 27 * 32 + 28);
        x.fix(27, 28, true);
        Due.is("27 29", () -> x.asked(27), 27 * 32 + 29);

        Cases.says(35, "; -1: no PAIR is FREE, or there is no BEST");
        Due.is("one best one", () -> PartCases.chain(10).asked(0), -1);
        Due.is("one entry", () -> Due.alike(1).asked(0), -1);
        Due.is("torn", () -> PartCases.torn().asked(0), -1);
        x.loose(27, 28);
        x.fix(3, 4, true);
        x.weigh(3, 4, SlipHeaps.VOID);
        Due.is("torn, behind one that has free ones", () -> x.asked(28) * 10 + x.asked(3), (27 * 32 + 28) * 10 - 1);

        Cases.says(35, "; -2: the PART has more than 10, or more than 200 BEST ones.");
        Due.is("of 11", () -> PartCases.chain(11).asked(0), -2);
        SlipHeaps y = PartCases.hub(8, new int[] {0, 2}, new int[] {0, 3}, new int[] {0, 5}, new int[] {0, 7}, new int[] {1, 2},
            new int[] {1, 3}, new int[] {1, 5}, new int[] {1, 6}, new int[] {1, 7}, new int[] {2, 5}, new int[] {3, 5}, new int[] {3, 6},
            new int[] {5, 6});
        Due.is("200", () -> y.many(0), 200);
        Due.is("of 200", () -> y.asked(0), 32 + 2);
        SlipHeaps z = PartCases.hub(7, new int[] {1, 2}, new int[] {1, 4}, new int[] {2, 5}, new int[] {3, 5}, new int[] {4, 6}, new int[] {5, 6});
        Due.is("201", () -> z.many(0), 201);
        Due.is("of 201", () -> z.asked(0), -2);
        Due.is("of all of nine", () -> PartCases.hub(9).asked(0), -2);
        for (int e : new int[] {-1, 30, FAR[0], FAR[1]}) {
            Due.is("of none", () -> x.asked(e), Due.NO_SUCH);
        }
    }

    private static void nearCalls() {
        SlipHeaps x = weighed(3, new int[] {0, 1, 10}, new int[] {1, 2, 4}, new int[] {0, 2, -6});
        Cases.says(36, "NEAR of an ENTRY's PART by m: how many PAIRS lie otherwise");
        Due.is("one", () -> x.near(2, 0), 1);
        x.join(1, 0);
        Due.is("none", () -> x.near(2, 0), 0);
        x.join(2, 0);
        Due.is("two", () -> x.near(2, 0), 2);
        x.alone(1);
        Due.is("two again, 0 with 1 and 2 alone", () -> x.near(2, 1), 2);
        x.law(0, 1);
        Due.is("of 0 2 and 1: all alone", () -> x.near(2, 0), 1);
        x.law(0, 0);
        Cases.says(36, "; -1: there is no BEST");
        Due.is("torn", () -> PartCases.torn().near(0, 0), -1);
        Cases.says(36, "; -2: it has more than 10.");
        Due.is("10", () -> PartCases.chain(10).near(0, 0), 45);
        Due.is("11", () -> PartCases.chain(11).near(0, 0), -2);
        Cases.says(36, "IllegalArgumentException: m is not 0 to 100,000.");
        for (int m : new int[] {-1, 100001, FAR[0], FAR[1]}) {
            Due.is("near by " + m, () -> x.near(0, m), Due.ILLEGAL);
            Due.is("of 11 by " + m, () -> PartCases.chain(11).near(0, m), Due.ILLEGAL);
            Due.is("of none by " + m, () -> x.near(3, m), Due.NO_SUCH);
            Due.is("nearest by " + m, () -> x.nearest(0, m), Due.ILLEGAL);
            Due.is("nearest of none by " + m, () -> x.nearest(-1, m), Due.NO_SUCH);
        }
        Due.is("by 0", () -> x.near(0, 0), 2);
        Due.is("by 100,000", () -> x.near(0, 100000), 0);
        SlipHeaps far = Due.alike(10);
        Due.rules(far, "for 9999;for 1;");
        Due.is("ten alone cost 450,000", () -> far.near(0, 100000) > 0, 1);
        SlipHeaps less = weighed(10);
        for (int i = 1; i < 10; i++) {
            less.weigh(0, i, 10000);
        }
        less.weigh(1, 2, 10000);
        Due.is("ten alone cost 100,000: by 99,999", () -> less.near(0, 99999), 1);
        Due.is("by 100,000", () -> less.near(0, 100000), 0);

        Cases.says(37, "The HEAP of an ENTRY in NEAR by m");
        Due.is("in best", () -> nearest(x, 1), "0 0 2");
        Due.is("hand itself", () -> nearest(x, 100000), "0 1 0");
        Cases.says(37, "; -1, -2 likewise.");
        Due.is("torn", () -> PartCases.torn().nearest(0, 0), -1);
        Due.is("beside it", () -> PartCases.torn().nearest(2, 0), 2);
        Due.is("10", () -> PartCases.chain(10).nearest(9, 0), 0);
        Due.is("11", () -> PartCases.chain(11).nearest(9, 0), -2);
        for (int e : new int[] {-1, 3, FAR[0], FAR[1]}) {
            Due.is("near of none", () -> x.near(e, 0), Due.NO_SUCH);
            Due.is("nearest of none", () -> x.nearest(e, 0), Due.NO_SUCH);
        }
    }

    /** ENTRIES of these books, hanging together in a row by 1. */
    private static SlipHeaps row(int... books) {
        SlipHeaps x = new SlipHeaps();
        for (int i = 0; i < books.length; i++) {
            x.entry(books[i], 0, 0, 0, -1);
            if (i > 0) {
                x.weigh(i - 1, i, 1);
            }
        }
        return x;
    }

    private static void withoutCalls() {
        SlipHeaps x = row(0, 1, 2, 3, 7);
        x.fix(2, 4, false);
        Cases.says(38, "WITHOUT a BOOK: COST of the BEST");
        Due.is("all", x::all, 1);
        Due.is("without 0", () -> x.without(0), 1);
        Due.is("without 3", () -> x.without(3), 0);
        Due.is("without 7", () -> x.without(7), 0);
        Due.is("of no entries", () -> new SlipHeaps().without(0), 0);
        Due.is("of one book", () -> Due.alike(5).without(0), 0);
        Due.is("asked for all again", x::all, 1);
        SlipHeaps thirty = full();
        thirty.law(1, 1);
        Due.is("thirty of one book", () -> thirty.without(0), 0);
        Due.is("thirty of another", () -> thirty.without(7), 0);
        Cases.says(38, "; -1, -2 likewise.");
        SlipHeaps t = row(0, 1, 2);
        t.fix(0, 1, true);
        t.fix(0, 1, true);
        t.weigh(0, 1, SlipHeaps.VOID);
        Due.is("torn without another", () -> t.without(2), -1);
        Due.is("torn without one of both", () -> t.without(1), 0);
        SlipHeaps big = row(0, 0, 0, 0, 0, 0, 0, 0, 0, 0, 0, 6);
        Due.is("11 of 12", () -> big.without(6), -2);
        Due.is("one of 12", () -> big.without(0), 0);
        big.fix(0, 1, true);
        big.weigh(10, 11, 0);
        big.entry(1, 0, 0, 0, -1);
        big.fix(11, 12, true);
        big.fix(11, 12, false);
        big.weigh(11, 12, SlipHeaps.VOID);
        Due.is("11, and a torn one", () -> big.without(5), -1);
        Due.is("11 without half of it", () -> big.without(1), -2);
        Cases.says(38, "IllegalArgumentException: no such BOOK (so below).");
        for (int book : new int[] {-1, 8, FAR[0], FAR[1]}) {
            Due.is("without " + book, () -> x.without(book), Due.ILLEGAL);
            Due.is("of 11", () -> big.without(book), Due.ILLEGAL);
            Due.is("stands " + book, () -> x.stands(book), Due.ILLEGAL);
            Due.is("stands of 11", () -> big.stands(book), Due.ILLEGAL);
        }

        Cases.says(39, "STANDS");
        Due.is("first", () -> PartCases.firsts(x), "0 0 0 0 4");
        Due.is("without 0", () -> x.stands(0), 2);
        Due.is("without 3: 0 1 2 and 7's", () -> x.stands(3), 2);
        Due.is("without 2: 0 1 3 and 4 are 0 1 and 3 4 then", () -> x.stands(2), 0);
        Due.is("without 7", () -> x.stands(7), 1);
        Due.is("thirty of one book", () -> full().stands(0), 0);
        Due.is("thirty of another", () -> full().stands(7), 30);
        Cases.says(39, "; -1, -2: all() or without() has that");
        Due.is("all torn, without 1 not", () -> t.stands(1), -1);
        Due.is("both torn", () -> t.stands(2), -1);
        SlipHeaps eleven = row(0, 0, 0, 0, 0, 0, 0, 0, 0, 0, 6);
        Due.is("all is of 11, without 6 not", () -> eleven.stands(6), -2);
        Due.is("both are of 11", () -> eleven.stands(5), -2);
        Due.is("10", () -> PartCases.chain(10).stands(1), 1);
        Cases.says(39, "(what all() has goes first).");
        SlipHeaps both = row(1, 0, 0, 0, 0, 0, 0, 0, 0, 0, 0, 0);
        both.weigh(0, 1, 0);
        both.entry(0, 0, 0, 0, -1);
        both.fix(0, 12, true);
        both.weigh(0, 12, SlipHeaps.VOID);
        Due.is("all: -1", both::all, -1);
        Due.is("without 1: -2", () -> both.without(1), -2);
        Due.is("stands: -1", () -> both.stands(1), -1);
    }

    private static SlipHeaps full() {
        SlipHeaps x = new SlipHeaps();
        for (int i = 0; i < 30; i++) {
            x.entry(0, i % 16, 0, 0, -1);
        }
        Due.rules(x, "look if 1=2;" + "for 1;".repeat(15));
        return x;
    }

    private static void count() {
        SlipHeaps none = new SlipHeaps();
        Cases.says(42, "0 ENTRIES");
        Due.is("none", () -> none.count(0), 0);
        Due.is("30", () -> full().count(0), 30);
        Cases.says(42, ", 1 CLAUSES");
        Due.is("none", () -> none.count(1), 0);
        Due.is("16", () -> full().count(1), 16);
        Cases.says(42, ", 2 PAIRS told by hand");
        SlipHeaps x = full();
        Due.is("none", () -> x.count(2), 0);
        for (int i = 0; i < 61; i++) {
            x.weigh(i % 20, 20 + i / 20, i % 3 - 1);
        }
        Due.is("60", () -> x.count(2), 60);
        x.forget(0, 20);
        Due.is("59", () -> x.count(2), 59);
        x.forget(0, 20);
        Due.is("59 still", () -> x.count(2), 59);
        Cases.says(42, ", 3 FIXED ones");
        Due.is("none", () -> x.count(3), 0);
        for (int i = 0; i < 21; i++) {
            x.fix(i, i + 1, i % 2 == 0);
        }
        Due.is("20", () -> x.count(3), 20);
        x.loose(0, 1);
        x.loose(0, 1);
        Due.is("19", () -> x.count(3), 19);
        Cases.says(42, ", 4 HEAPS of HAND");
        Due.is("none", () -> none.count(4), 0);
        Due.is("30", () -> x.count(4), 30);
        for (int i = 2; i < 30; i++) {
            x.join(1, i);
        }
        Due.is("2", () -> x.count(4), 2);
        x.join(0, 29);
        Due.is("1", () -> x.count(4), 1);
        Cases.says(42, ", 5 PARTS");
        Due.is("none", () -> none.count(5), 0);
        Due.is("30", () -> full().count(5), 30);
        Due.is("1", () -> PartCases.chain(30).count(5), 1);
        Due.is("29", () -> weighed(30, new int[] {0, 29, 1}).count(5), 29);
        Cases.says(42, ", 6 TOLD RINGS");
        Due.is("none", () -> none.count(6), 0);
        SlipHeaps r = weighed(3, new int[] {0, 1, 50}, new int[] {1, 2, 50}, new int[] {0, 2, -50});
        for (int i = 0; i < 41; i++) {
            r.told(0, 1, 2, 1);
        }
        Due.is("40", () -> r.count(6), 40);
        r.weigh(0, 1, 50);
        Due.is("none then", () -> r.count(6), 0);
        Cases.says(42, ", 7 MARKS");
        Due.is("none", () -> none.count(7), 0);
        for (int i = 0; i < 7; i++) {
            r.mark();
        }
        Due.is("6", () -> r.count(7), 6);
        r.back();
        Due.is("5", () -> r.count(7), 5);
        Cases.says(42, ", 8 bytes of the TAPE");
        Due.is("none", () -> none.count(8), 0);
        for (int i = 0; i < 21; i++) {
            none.feed(0, 0, 0, 0, 0);
        }
        Due.is("400", () -> none.count(8), 400);
        none.rules(3);
        Due.is("none then", () -> none.count(8), 0);
        Cases.says(42, ", 9 PAIRS that are PASSED and not told by hand");
        SlipHeaps p = full();
        Due.is("all 435", () -> p.count(9), 435);
        p.weigh(0, 1, 0);
        p.weigh(1, 2, SlipHeaps.VOID);
        Due.is("but two", () -> p.count(9), 433);
        p.forget(0, 1);
        Due.is("but one", () -> p.count(9), 434);
        Due.rules(p, "look if like=100;");
        Due.is("names 0 to 13 are there twice", () -> p.count(9), 434 - 14);
        Due.rules(p, "for 1;");
        Due.is("none without look", () -> p.count(9), 0);
        Cases.says(42, "; NONE for others.");
        for (int what : new int[] {-1, 10, 11, FAR[0], FAR[1]}) {
            Due.is("count(" + what + ")", () -> p.count(what), -1);
        }
    }
}
