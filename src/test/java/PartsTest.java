/** Promises 27 to 39: best, many, first, all, take, always, edge, holds, asked, near, nearest, without, stands. */
public final class PartsTest {
    public static void main(String[] args) {
        pair();
        star();
        noBest();
        bigPart();
        bigAndNone();
        manyBest();
        edges();
        asked();
        near();
        without();
        wrongCalls();
        Due.close("PartsTest");
    }

    private static String firsts(SlipHeaps x) {
        StringBuilder s = new StringBuilder();
        for (int i = 0; i < x.count(0); i++) {
            s.append(x.first(i)).append(' ');
        }
        return s.toString().trim();
    }

    private static String hand(SlipHeaps x) {
        StringBuilder s = new StringBuilder();
        for (int i = 0; i < x.count(0); i++) {
            s.append(x.of(i, 5)).append(' ');
        }
        return s.toString().trim();
    }

    private static void pair() {
        SlipHeaps x = Due.alike(4);
        x.weigh(1, 3, 9);
        x.weigh(0, 1, -5);
        Due.is("parts", () -> x.count(5), 3);
        Due.is("best of one", () -> x.best(0), 0);
        Due.is("many of one", () -> x.many(0), 1);
        Due.is("best", () -> x.best(3), 0);
        Due.is("first", () -> firsts(x), "0 1 2 1");
        Due.is("always of two parts", () -> x.always(0, 1), -2);
        Due.is("edge of two parts", () -> x.edge(0, 1), Due.VOID);
        Due.is("holds of two parts", () -> x.holds(0, 1, 0), -2);
        x.join(0, 1);
        Due.is("take", x::take, 1);
        Due.is("taken", () -> hand(x), "0 1 2 1");
        x.fix(1, 3, false);
        Due.is("apart now", () -> x.best(1), 9);
        Due.is("one part still", () -> x.of(3, 6), 1);
        Due.is("all", x::all, 9);
        Due.is("nowhere", () -> x.always(3, 1), -1);
        x.fix(0, 2, true);
        x.weigh(0, 2, -30);
        Due.is("together whatever it costs", x::all, 39);
        Due.is("so always", () -> x.always(0, 2), 1);
    }

    private static void star() {
        SlipHeaps x = Due.alike(4);
        for (int i = 1; i < 4; i++) {
            x.weigh(0, i, 1);
        }
        Due.is("all in one", () -> x.best(2) * 10 + x.many(2), 1);
        x.law(0, 2);
        Due.is("two in a heap", () -> x.best(2), 2);
        Due.is("and others may be", () -> x.many(2), 6);
        Due.is("the first of six", () -> firsts(x), "0 0 2 2");
        Due.is("free", () -> x.always(2, 3), 0);
        x.fix(0, 3, true);
        Due.is("the first of two", () -> firsts(x), "0 1 1 0");
        x.fix(1, 2, false);
        Due.is("the only one", () -> firsts(x), "0 1 2 0");
        Due.is("take", x::take, 1);
        Due.is("hand", () -> hand(x), "0 1 2 0");
        Due.is("cost of it", x::cost, 2);
    }

    private static void noBest() {
        SlipHeaps x = Due.alike(4);
        x.join(2, 3);
        x.fix(0, 1, true);
        x.weigh(1, 0, SlipHeaps.VOID);
        Due.is("best", () -> x.best(1), -1);
        Due.is("many", () -> x.many(1), 0);
        Due.is("first", () -> x.first(1), -1);
        Due.is("all", x::all, -1);
        Due.is("take", x::take, -1);
        Due.is("nothing taken", () -> hand(x), "0 1 2 2");
        Due.is("always", () -> x.always(0, 1), -2);
        Due.is("edge", () -> x.edge(0, 1), Due.VOID);
        Due.is("holds", () -> x.holds(0, 1, 0), -2);
        Due.is("asked", () -> x.asked(0), -1);
        Due.is("near", () -> x.near(0, 5), -1);
        Due.is("nearest", () -> x.nearest(0, 5), -1);
        Due.is("without", () -> x.without(1), -1);
        Due.is("stands", () -> x.stands(0), -1);
        Due.is("without the book of all", () -> x.without(0), 0);
        Due.is("another part", () -> x.best(2), 0);
    }

    private static void bigPart() {
        SlipHeaps x = new SlipHeaps();
        for (int i = 0; i < 11; i++) {
            x.entry(i == 4 ? 1 : 0, 0, 0, 0, -1);
        }
        for (int i = 0; i < 9; i++) {
            x.weigh(i, i + 1, 1);
        }
        Due.is("10 are few enough", () -> x.best(9), 0);
        x.weigh(9, 10, 1);
        Due.is("best", () -> x.best(1), -2);
        Due.is("many", () -> x.many(1), -2);
        Due.is("first", () -> x.first(1), -2);
        Due.is("all", x::all, -2);
        Due.is("take", x::take, -2);
        Due.is("always", () -> x.always(0, 1), -2);
        Due.is("edge", () -> x.edge(0, 1), Due.VOID);
        Due.is("holds", () -> x.holds(0, 1, 0), -2);
        Due.is("asked", () -> x.asked(0), -2);
        Due.is("near", () -> x.near(0, 5), -2);
        Due.is("nearest", () -> x.nearest(0, 5), -2);
        Due.is("how many it has", () -> x.of(10, 7), 11);
        Due.is("without one of them", () -> x.without(1), 0);
        Due.is("without none of them", () -> x.without(2), -2);
        Due.is("stands as all", () -> x.stands(1), -2);
    }

    private static void bigAndNone() {
        SlipHeaps x = Due.alike(13);
        for (int i = 0; i < 10; i++) {
            x.weigh(i, i + 1, 1);
        }
        x.fix(11, 12, true);
        Due.is("one too big", x::all, -2);
        x.weigh(11, 12, SlipHeaps.VOID);
        Due.is("none goes first", x::all, -1);
        Due.is("take too", x::take, -1);
        Due.is("stands too", () -> x.stands(3), -1);
    }

    private static void manyBest() {
        SlipHeaps x = Due.alike(10);
        for (int i = 1; i < 10; i++) {
            x.weigh(0, i, 1);
            x.fix(0, i, false);
        }
        Due.is("all heapings of nine", () -> x.many(4), 21147);
        Due.is("each costs nine", () -> x.best(4), 9);
        Due.is("the first of them", () -> x.first(9), 1);
        Due.is("too many to ask", () -> x.asked(4), -2);
        Due.is("free", () -> x.always(1, 9), 0);
        Due.is("edge", () -> x.edge(1, 9), 0);
        x.law(0, 1);
        Due.is("alone", () -> x.many(4), 1);
        Due.is("none free", () -> x.asked(4), -1);
    }

    private static void edges() {
        SlipHeaps x = Due.alike(3);
        x.weigh(0, 1, 10);
        x.weigh(1, 2, 4);
        x.weigh(0, 2, -6);
        Due.is("best", () -> x.best(0), 4);
        Due.is("first", () -> firsts(x), "0 0 2");
        Due.is("edge of the dear one", () -> x.edge(0, 1), 6);
        Due.is("edge of the other", () -> x.edge(2, 1), -2);
        Due.is("edge of the third", () -> x.edge(0, 2), -2);
        Due.is("holds: 600 above 2 * 14 * 20", () -> x.holds(0, 1, 14), 1);
        Due.is("holds: 600 is 2 * 15 * 20", () -> x.holds(0, 1, 15), 0);
        Due.is("holds: 200 above 2 * 4 * 20", () -> x.holds(1, 2, 4), -1);
        Due.is("holds: 200 is 2 * 5 * 20", () -> x.holds(1, 2, 5), 0);
        Due.is("holds for all of it", () -> x.holds(0, 1, 100), 0);
        x.weigh(0, 2, SlipHeaps.VOID);
        Due.is("never", () -> x.edge(0, 2), Due.VOID);
        Due.is("never is nowhere", () -> x.always(0, 2), -1);
        Due.is("the amount of never is none", () -> x.holds(0, 1, 21), 1);
        Due.is("600 is not above 2 * 22 * 14", () -> x.holds(0, 1, 22), 0);
        x.fix(1, 2, true);
        Due.is("fixed", () -> x.edge(1, 2), Due.VOID);
        Due.is("fixed is always", () -> x.always(1, 2), 1);
        Due.is("fixed has no hold", () -> x.holds(1, 2, 0), -2);
    }

    private static void asked() {
        SlipHeaps x = Due.alike(3);
        x.weigh(0, 1, 5);
        x.weigh(1, 2, 5);
        x.weigh(0, 2, -5);
        Due.is("three best ones", () -> x.many(0), 3);
        Due.is("the first of those alike", () -> x.asked(1), 1);
        x.fix(0, 1, true);
        Due.is("one is settled", () -> x.many(0), 2);
        Due.is("then", () -> x.asked(2), 2);
        x.loose(0, 1);
        x.weigh(0, 1, 6);
        Due.is("two pairs that go as one", () -> x.many(0), 2);
        Due.is("the lesser of them", () -> x.asked(2), 2);
        SlipHeaps y = Due.alike(4);
        int[][] told = {{0, 1, -1}, {0, 2, 2}, {0, 3, -1}, {1, 2, 1}, {2, 3, 2}};
        for (int[] t : told) {
            y.weigh(t[0], t[1], t[2]);
        }
        // The best ones: all in one; 1 alone; 0 alone. 0 1 leaves four free if they are apart, 0 2 three if together.
        Due.is("best ones", () -> y.many(0), 3);
        Due.is("0 1 is free", () -> y.always(0, 1), 0);
        Due.is("but 0 2 is asked", () -> y.asked(3), 2);
        y.fix(0, 1, false);
        // 1 alone, 0 alone: 0 2, 0 3, 1 2 and 1 3 go together, and none is free when one is settled.
        Due.is("two left", () -> y.many(0), 2);
        Due.is("0 2 is the first", () -> y.asked(0), 2);
        y.loose(0, 1);
        y.fix(0, 2, true);
        // All in one, 1 alone: 0 1, 1 2 and 1 3.
        Due.is("0 1 is the first", () -> y.asked(0), 1);
        y.fix(0, 1, false);
        Due.is("one left", () -> y.asked(0), -1);
        Due.is("no ring, nothing free", () -> Due.alike(1).asked(0), -1);
    }

    private static void near() {
        SlipHeaps x = Due.alike(3);
        x.weigh(0, 1, 10);
        x.weigh(1, 2, 4);
        x.weigh(0, 2, -6);
        Due.is("hand alone, best only", () -> x.near(0, 0), 1);
        Due.is("its heap", () -> x.nearest(1, 0), 0);
        Due.is("all alone costs 14, ten more", () -> x.near(0, 9), 1);
        Due.is("ten are enough", () -> x.near(0, 10), 0);
        Due.is("so alone", () -> x.nearest(1, 10), 1);
        x.join(0, 2);
        Due.is("from 0 2 | 1", () -> x.near(2, 0), 2);
        Due.is("two more: all in one", () -> x.near(2, 2), 2);
        Due.is("the first of both", () -> x.nearest(2, 2), 0);
        x.law(0, 2);
        Due.is("laws bind it", () -> x.nearest(2, 2), 2);
        Due.is("hand itself", () -> x.near(2, 100000), 0);
        x.join(0, 1);
        Due.is("hand is not lawful", () -> x.near(2, 100000), 2);
        Due.is("the first of those", () -> x.nearest(1, 100000) * 10 + x.nearest(2, 100000), 2);
        Due.is("m below 0", () -> x.near(0, -1), Due.ILLEGAL);
        Due.is("m above", () -> x.nearest(0, 100001), Due.ILLEGAL);
        Due.is("no entry", () -> x.near(3, -1), Due.NO_SUCH);
        Due.is("no entry again", () -> x.nearest(-1, 0), Due.NO_SUCH);
    }

    private static void without() {
        SlipHeaps x = new SlipHeaps();
        int[] books = {0, 1, 2, 0, 3, 4};
        for (int book : books) {
            x.entry(book, 0, 0, 0, -1);
        }
        x.weigh(0, 1, 5);
        x.weigh(0, 2, 5);
        x.weigh(1, 2, -3);
        x.weigh(2, 3, -9);
        x.weigh(3, 4, 7);
        x.weigh(4, 5, SlipHeaps.VOID);
        x.weigh(3, 5, 6);
        Due.is("all", x::all, 9);
        Due.is("first", () -> firsts(x), "0 0 0 3 3 5");
        Due.is("without 0", () -> x.without(0), 0);
        Due.is("1 and 2 part, 4 and 5 stand", () -> x.stands(0), 2);
        Due.is("without 1", () -> x.without(1), 6);
        Due.is("0 2, 3 4 and 5 stand", () -> x.stands(1), 3);
        Due.is("without 3", () -> x.without(3), 3);
        Due.is("3 and 5 come together", () -> x.stands(3), 1);
        Due.is("a book of none", () -> x.without(7), 9);
        Due.is("all three stand", () -> x.stands(7), 3);
        Due.is("no book", () -> x.without(8), Due.ILLEGAL);
        Due.is("no book again", () -> x.stands(-1), Due.ILLEGAL);
        Due.is("no book to stand", () -> x.stands(8), Due.ILLEGAL);
        Due.is("no book left out", () -> x.without(-1), Due.ILLEGAL);
        x.fix(1, 4, true);
        x.fix(1, 5, true);
        Due.is("no best", x::all, -1);
        Due.is("but without 1 there is", () -> x.without(1), 6);
        Due.is("what all has goes first", () -> x.stands(1), -1);
    }

    private static void wrongCalls() {
        SlipHeaps x = Due.alike(2);
        for (int e : new int[] {-1, 2, Integer.MIN_VALUE, Integer.MAX_VALUE}) {
            Due.is("best", () -> x.best(e), Due.NO_SUCH);
            Due.is("many", () -> x.many(e), Due.NO_SUCH);
            Due.is("first", () -> x.first(e), Due.NO_SUCH);
            Due.is("asked", () -> x.asked(e), Due.NO_SUCH);
            Due.is("always", () -> x.always(e, e), Due.NO_SUCH);
            Due.is("edge", () -> x.edge(0, e), Due.NO_SUCH);
            Due.is("holds", () -> x.holds(e, 0, 101), Due.NO_SUCH);
        }
        Due.is("always of one", () -> x.always(1, 1), Due.ILLEGAL);
        Due.is("edge of one", () -> x.edge(0, 0), Due.ILLEGAL);
        Due.is("holds of one", () -> x.holds(0, 0, 1), Due.ILLEGAL);
        Due.is("p above", () -> x.holds(0, 1, 101), Due.ILLEGAL);
        Due.is("p below", () -> x.holds(0, 1, -1), Due.ILLEGAL);
    }
}
