/** Promises 15 to 22, 40 and 41: put, alone, join, swap, cost, barred, better, grow, mark, back. */
public final class HandTest {
    public static void main(String[] args) {
        moves();
        wrongMoves();
        cost();
        barred();
        better();
        betterKinds();
        grow();
        marks();
        Due.close("HandTest");
    }

    private static String heaps(SlipHeaps x) {
        StringBuilder s = new StringBuilder();
        for (int i = 0; i < x.count(0); i++) {
            s.append(x.of(i, 5)).append(' ');
        }
        return s.toString().trim();
    }

    private static void moves() {
        SlipHeaps x = Due.alike(5);
        Due.is("put", () -> x.put(3, 1), 1);
        Due.is("put a least", () -> x.put(1, 4), 1);
        Due.is("its heap has another number", () -> heaps(x), "0 1 2 3 1");
        Due.is("put where it is", () -> x.put(4, 1), 1);
        Due.is("put 0", () -> x.put(0, 3), 0);
        Due.is("then", () -> heaps(x), "0 1 2 0 1");
        Due.is("alone", () -> x.alone(0), 1);
        Due.is("is alone", () -> x.alone(0), 0);
        Due.is("the others stay", () -> heaps(x), "0 1 2 3 1");
        Due.is("join", () -> x.join(4, 0), 0);
        Due.is("joined", () -> heaps(x), "0 0 2 3 0");
        Due.is("one heap", () -> x.join(1, 4), -1);
        Due.is("one entry", () -> x.join(2, 2), -1);
        Due.is("swap", () -> x.swap(0, 2), 1);
        Due.is("swapped", () -> heaps(x), "0 1 1 3 1");
        Due.is("swap of lone ones", () -> x.swap(0, 3), 1);
        Due.is("all as it was", () -> heaps(x), "0 1 1 3 1");
        Due.is("swap in one heap", () -> x.swap(1, 4), -1);
        Due.is("swap one entry", () -> x.swap(3, 3), -1);
        Due.is("alone out of three", () -> x.alone(1), 1);
        Due.is("the rest by its least", () -> heaps(x), "0 1 2 3 2");
        Due.is("heaps", () -> x.count(4), 4);
    }

    private static void wrongMoves() {
        SlipHeaps x = Due.alike(2);
        Due.is("put one", () -> x.put(1, 1), Due.ILLEGAL);
        Due.is("put none", () -> x.put(2, 2), Due.NO_SUCH);
        Due.is("put to none", () -> x.put(0, -1), Due.NO_SUCH);
        Due.is("alone none", () -> x.alone(2), Due.NO_SUCH);
        Due.is("join none", () -> x.join(0, 2), Due.NO_SUCH);
        Due.is("join none twice", () -> x.join(-1, -1), Due.NO_SUCH);
        Due.is("swap none", () -> x.swap(2, 0), Due.NO_SUCH);
        Due.is("better(-1)", () -> x.better(-1), Due.ILLEGAL);
        Due.is("better(4)", () -> x.better(4), Due.ILLEGAL);
        Due.is("grow(-1)", () -> x.grow(-1), Due.ILLEGAL);
        Due.is("grow(101)", () -> x.grow(101), Due.ILLEGAL);
    }

    private static void cost() {
        SlipHeaps x = Due.alike(4);
        x.weigh(0, 1, 7);
        x.weigh(1, 2, -4);
        x.weigh(2, 3, 5);
        x.weigh(0, 3, SlipHeaps.VOID);
        Due.is("all alone", x::cost, 12);
        x.join(0, 1);
        Due.is("0 with 1", x::cost, 5);
        x.join(0, 2);
        Due.is("2 too", x::cost, 9);
        x.join(0, 3);
        Due.is("all together, the never too", x::cost, 4);
    }

    private static void barred() {
        SlipHeaps x = new SlipHeaps();
        for (int i = 0; i < 6; i++) {
            x.entry(i % 3, 0, 0, 10 * i, -1);
        }
        x.join(1, 4);
        x.join(4, 5);
        Due.is("lawful", x::barred, -1);
        x.law(0, 2);
        Due.is("the one too many", x::barred, 5);
        x.law(1, 1);
        Due.is("one book ahead of it", x::barred, 4);
        x.law(0, 0);
        x.law(1, 0);
        x.law(2, 30);
        Due.is("years", x::barred, 5);
        x.law(2, -1);
        x.weigh(4, 5, SlipHeaps.VOID);
        Due.is("never", x::barred, 5);
        x.fix(1, 4, false);
        Due.is("fixed apart", x::barred, 4);
        x.fix(3, 0, true);
        Due.is("fixed together", x::barred, 3);
        x.join(0, 3);
        x.loose(1, 4);
        x.forget(4, 5);
        Due.is("lawful again", x::barred, -1);
    }

    private static void better(SlipHeaps x, long cost, long sort, long one, long two) {
        Due.is("better: cost", () -> x.better(0), cost);
        Due.is("better: sort", () -> x.better(1), sort);
        Due.is("better: one", () -> x.better(2), one);
        Due.is("better: two", () -> x.better(3), two);
    }

    private static void better() {
        SlipHeaps x = Due.alike(4);
        better(x, Due.VOID, Due.VOID, Due.VOID, Due.VOID);
        x.weigh(1, 3, 6);
        x.weigh(0, 2, 6);
        better(x, 6, 0, 0, 2);
        x.weigh(1, 3, 7);
        better(x, 6, 0, 1, 3);
        x.fix(1, 3, false);
        better(x, 7, 0, 0, 2);
        x.fix(0, 2, true);
        better(x, Due.VOID, Due.VOID, Due.VOID, Due.VOID);
        x.put(0, 2);
        better(x, Due.VOID, Due.VOID, Due.VOID, Due.VOID);
        x.loose(0, 2);
        x.weigh(0, 2, -1);
        Due.is("cost then", x::cost, 8);
        better(x, 7, 0, 0, 1);
        x.law(0, 2);
        x.join(1, 3);
        x.loose(1, 3);
        better(x, 0, 0, 0, -1);
    }

    private static void betterKinds() {
        SlipHeaps x = Due.alike(4);
        x.join(0, 1);
        x.join(2, 3);
        x.weigh(0, 1, 10);
        x.weigh(2, 3, 10);
        x.weigh(0, 2, 3);
        x.weigh(1, 3, 3);
        better(x, 0, 1, 0, 2);
        x.law(0, 3);
        better(x, Due.VOID, Due.VOID, Due.VOID, Due.VOID);
        x.law(0, 2);
        x.weigh(0, 1, 1);
        x.weigh(2, 3, 1);
        better(x, 2, 2, 0, 3);
        Due.is("grown", () -> x.grow(1), 1);
        Due.is("changed places", () -> x.of(3, 5) * 10 + x.of(2, 5), 10);
        heldBack();
        SlipHeaps y = Due.alike(3);
        y.join(0, 1);
        y.weigh(0, 1, 2);
        y.weigh(1, 2, 5);
        y.fix(0, 1, true);
        better(y, 0, 0, 2, 0);
        y.loose(0, 1);
        y.law(0, 2);
        better(y, 2, 0, 1, 2);
    }

    /** Changing places is best, unless one of both has to stay. */
    private static void heldBack() {
        SlipHeaps x = Due.alike(4);
        x.join(0, 1);
        x.join(2, 3);
        x.law(0, 2);
        x.weigh(0, 2, 5);
        better(x, 0, 2, 0, 3);
        x.fix(0, 1, true);
        better(x, Due.VOID, Due.VOID, Due.VOID, Due.VOID);
        x.loose(0, 1);
        x.fix(2, 3, true);
        better(x, Due.VOID, Due.VOID, Due.VOID, Due.VOID);
        x.loose(2, 3);
        x.fix(0, 3, true);
        Due.is("not lawful", () -> x.better(1), Due.VOID);
        x.loose(0, 3);
        x.weigh(1, 3, SlipHeaps.VOID);
        better(x, Due.VOID, Due.VOID, Due.VOID, Due.VOID);
        x.weigh(1, 3, -1);
        better(x, 1, 2, 0, 3);
        SlipHeaps y = Due.alike(2);
        y.weigh(0, 1, 5);
        y.fix(0, 1, false);
        better(y, Due.VOID, Due.VOID, Due.VOID, Due.VOID);
    }

    private static void grow() {
        SlipHeaps x = Due.alike(5);
        Due.is("at its end", () -> x.grow(100), 0);
        for (int i = 0; i < 4; i++) {
            x.weigh(i, i + 1, 5 + i);
        }
        Due.is("none at most", () -> x.grow(0), 0);
        Due.is("two at most", () -> x.grow(2), 2);
        Due.is("the dearest first", () -> heaps(x), "0 1 2 2 2");
        Due.is("to the end", () -> x.grow(100), 2);
        Due.is("all", () -> heaps(x), "0 0 0 0 0");
        x.weigh(1, 2, -100);
        x.weigh(0, 1, 200);
        Due.is("better alone", () -> x.grow(100), 1);
        Due.is("2 is alone", () -> heaps(x), "0 0 2 0 0");
        x.weigh(0, 4, SlipHeaps.VOID);
        Due.is("not lawful", () -> x.grow(0), -1);
        Due.is("not lawful, no better", () -> x.better(0), Due.VOID);
        Due.is("too many still is no number", () -> x.grow(101), Due.ILLEGAL);
    }

    private static void marks() {
        SlipHeaps x = Due.alike(4);
        Due.is("no mark", x::back, -1);
        x.join(0, 1);
        Due.is("mark", x::mark, 1);
        x.join(0, 2);
        Due.is("mark 2", x::mark, 2);
        x.alone(0);
        x.entry(0, 0, 0, 0, -1);
        x.join(4, 0);
        Due.is("back", x::back, 1);
        Due.is("as at mark 2", () -> heaps(x), "0 0 0 3 4");
        x.join(4, 2);
        Due.is("back again", x::back, 0);
        Due.is("as at mark 1", () -> heaps(x), "0 0 2 3 4");
        Due.is("no more", x::back, -1);
        for (int i = 1; i <= 6; i++) {
            Due.is("mark " + i, x::mark, i);
        }
        Due.is("a 7th", x::mark, -1);
        Due.is("6 are there", () -> x.count(7), 6);
    }
}
