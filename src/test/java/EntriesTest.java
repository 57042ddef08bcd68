/** Promises 1 to 4, and 42: a new object, entry, of, like, count. */
public final class EntriesTest {
    public static void main(String[] args) {
        newObject();
        entry();
        of();
        like();
        count();
        Due.close("EntriesTest");
    }

    private static void newObject() {
        SlipHeaps x = new SlipHeaps();
        for (int what = 0; what < 10; what++) {
            int w = what;
            Due.is("new: count(" + w + ")", () -> x.count(w), 0);
        }
        Due.is("new: fault", x::fault, -1);
        Due.is("new: of", () -> x.of(0, 0), Due.NO_SUCH);
        Due.is("new: weight", () -> x.weight(0, 1), Due.NO_SUCH);
        Due.is("new: rings", x::rings, 0);
        Due.is("new: bound", x::bound, 0);
        Due.is("new: cost", x::cost, 0);
        Due.is("new: all", x::all, 0);
        Due.is("new: take", x::take, 1);
        Due.is("new: back", x::back, -1);
        Due.is("new: better", () -> x.better(1), Due.VOID);
        Due.is("NONE", () -> SlipHeaps.NONE, -1);
        Due.is("VOID", () -> SlipHeaps.VOID, Integer.MIN_VALUE);
    }

    private static void entry() {
        SlipHeaps x = new SlipHeaps();
        int[][] wrong = {{-1, 0, 0, 0, 0}, {8, 0, 0, 0, 0}, {0, -1, 0, 0, 0}, {0, 16, 0, 0, 0}, {0, 0, -1, 0, 0},
            {0, 0, 8, 0, 0}, {0, 0, 0, -1, 0}, {0, 0, 0, 200, 0}, {0, 0, 0, 0, -2}, {0, 0, 0, 0, 16}};
        for (int[] w : wrong) {
            Due.is("entry beyond", () -> x.entry(w[0], w[1], w[2], w[3], w[4]), Due.ILLEGAL);
        }
        Due.is("none of them is there", () -> x.count(0), 0);
        for (int i = 0; i < 30; i++) {
            int n = i;
            Due.is("entry " + i, () -> n % 2 == 0 ? x.entry(0, 0, 0, 0, -1) : x.entry(7, 15, 7, 199, 15), i);
        }
        Due.is("a 31st entry", () -> x.entry(0, 0, 0, 0, -1), -1);
        Due.is("a wrong 31st entry", () -> x.entry(8, 0, 0, 0, -1), Due.ILLEGAL);
        Due.is("30 are there", () -> x.count(0), 30);
        Due.is("the last one's heap", () -> x.of(29, 5), 29);
    }

    private static void of() {
        SlipHeaps x = new SlipHeaps();
        x.entry(3, 4, 5, 66, 7);
        x.entry(1, 2, 6, 0, -1);
        x.entry(1, 2, 6, 0, -1);
        int[] due = {3, 4, 5, 66, 7, 0, 0, 1};
        for (int what = 0; what < 8; what++) {
            int w = what;
            Due.is("of(0, " + w + ")", () -> x.of(0, w), due[w]);
        }
        Due.is("no father", () -> x.of(1, 4), -1);
        x.put(1, 2);
        Due.is("heap", () -> x.of(2, 5), 1);
        x.weigh(0, 2, 1);
        Due.is("part", () -> x.of(2, 6), 0);
        Due.is("part has", () -> x.of(2, 7), 2);
        Due.is("other part", () -> x.of(1, 6), 1);
        x.weigh(0, 2, SlipHeaps.VOID);
        Due.is("never holds no part", () -> x.of(2, 6), 2);
        x.fix(1, 2, true);
        x.fix(0, 1, false);
        Due.is("fixed together holds a part, fixed apart none", () -> x.of(2, 6) * 10 + x.of(2, 7), 12);
        Due.is("of(3, 0)", () -> x.of(3, 0), Due.NO_SUCH);
        Due.is("of(-1, 0)", () -> x.of(-1, 0), Due.NO_SUCH);
        Due.is("of(0, 8)", () -> x.of(0, 8), Due.ILLEGAL);
        Due.is("of(0, -1)", () -> x.of(0, -1), Due.ILLEGAL);
        Due.is("of(3, 8)", () -> x.of(3, 8), Due.NO_SUCH);
    }

    private static void like() {
        SlipHeaps x = new SlipHeaps();
        x.entry(0, 3, 0, 0, -1);
        x.entry(0, 9, 0, 0, -1);
        x.entry(0, 3, 0, 0, -1);
        Due.rules(x, "for like;");
        Due.is("like at first", () -> x.weight(0, 1), 0);
        Due.is("of a name to itself", () -> x.weight(0, 2), 100);
        Due.is("like", () -> x.like(9, 3, 70), 0);
        Due.is("at once", () -> x.weight(0, 1), 70);
        Due.is("both ways", () -> x.like(3, 9, 100), 70);
        Due.is("0 too", () -> x.like(3, 9, 0), 100);
        Due.is("one name", () -> x.like(3, 3, 40), -1);
        Due.is("stays", () -> x.weight(0, 2), 100);
        Due.is("one name and too much", () -> x.like(3, 3, 101), Due.ILLEGAL);
        int[][] wrong = {{-1, 0, 0}, {16, 0, 0}, {0, -1, 0}, {0, 16, 0}, {0, 1, -1}, {0, 1, 101}};
        for (int[] w : wrong) {
            Due.is("like beyond", () -> x.like(w[0], w[1], w[2]), Due.ILLEGAL);
        }
    }

    private static void count() {
        SlipHeaps x = Due.alike(5);
        Due.rules(x, "look if years>0;never if 1=2;");
        x.weigh(0, 1, 5);
        x.weigh(1, 2, 5);
        x.weigh(0, 2, -3);
        x.fix(3, 4, true);
        x.fix(0, 4, false);
        x.join(1, 2);
        x.mark();
        x.told(0, 1, 2, 2);
        Due.feed(x, "a text of more than twenty");
        int[] due = {5, 2, 3, 2, 4, 2, 1, 1, 40, 7};
        for (int what = 0; what < 10; what++) {
            int w = what;
            Due.is("count(" + w + ")", () -> x.count(w), due[w]);
        }
        Due.is("count(10)", () -> x.count(10), -1);
        Due.is("count(-1)", () -> x.count(-1), -1);
        Due.is("count(least)", () -> x.count(Integer.MIN_VALUE), -1);
    }
}
