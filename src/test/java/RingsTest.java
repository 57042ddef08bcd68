/** Promises 23 to 26: bound, ring, rings, told. */
public final class RingsTest {
    public static void main(String[] args) {
        packed();
        never();
        told();
        toldIsGone();
        toldOften();
        Due.close("RingsTest");
    }

    private static void ring(SlipHeaps x, int k, int a, int b, int c, int takes) {
        int[] due = {a, b, c, takes};
        for (int what = 0; what < 4; what++) {
            int w = what;
            Due.is("ring(" + k + ", " + w + ")", () -> x.ring(k, w), due[w]);
        }
    }

    /** Rings 0 1 2, 0 1 3 and 1 2 3 hang together by shared pairs. */
    private static SlipHeaps four() {
        SlipHeaps x = Due.alike(4);
        x.weigh(0, 1, 10);
        x.weigh(0, 2, -4);
        x.weigh(1, 2, 7);
        x.weigh(0, 3, -8);
        x.weigh(1, 3, 9);
        x.weigh(2, 3, -20);
        return x;
    }

    private static void packed() {
        SlipHeaps x = four();
        Due.is("rings", x::rings, 3);
        Due.is("bound", x::bound, 13);
        ring(x, 0, 0, 1, 2, 4);
        ring(x, 1, 0, 1, 3, 6);
        ring(x, 2, 1, 2, 3, 3);
        ring(x, 3, -1, -1, -1, -1);
        ring(x, -1, -1, -1, -1, -1);
        x.weigh(0, 1, 4);
        Due.is("one takes nothing", x::rings, 3);
        ring(x, 1, 1, 2, 3, 3);
        Due.is("bound then", x::bound, 7);
        x.fix(0, 1, false);
        x.law(0, 1);
        Due.is("laws left aside", x::bound, 7);
        x.weigh(0, 2, 0);
        Due.is("0 is not below", x::rings, 2);
        Due.is("ring(0, 4)", () -> x.ring(0, 4), Due.ILLEGAL);
        Due.is("ring(0, -1)", () -> x.ring(0, -1), Due.ILLEGAL);
        Due.is("ring(99, 4)", () -> x.ring(99, 4), Due.ILLEGAL);
        ring(x, Integer.MAX_VALUE, -1, -1, -1, -1);
        ring(x, Integer.MIN_VALUE, -1, -1, -1, -1);
    }

    private static void never() {
        SlipHeaps x = Due.alike(3);
        x.weigh(0, 1, 10000);
        x.weigh(1, 2, 9000);
        Due.is("two alone are none", x::rings, 0);
        x.weigh(0, 2, SlipHeaps.VOID);
        Due.is("never", x::rings, 1);
        ring(x, 0, 0, 1, 2, 9000);
        x.weigh(0, 1, SlipHeaps.VOID);
        Due.is("two nevers", x::rings, 0);
    }

    private static void told() {
        SlipHeaps x = four();
        Due.is("told", () -> x.told(3, 1, 0, 7), 7);
        Due.is("rest has less", () -> x.told(0, 1, 2, 4), -2);
        Due.is("as much as there is", () -> x.told(0, 1, 2, 3), 10);
        Due.is("nothing left", () -> x.told(0, 1, 2, 1), -2);
        Due.is("another one", () -> x.told(2, 3, 1, 2), 12);
        Due.is("how many", () -> x.count(6), 3);
        Due.is("no ring", () -> x.told(0, 2, 3, 1), -1);
        Due.is("no ring, and too much", () -> x.told(0, 2, 3, 1000000), -1);
        Due.is("packed ones are others", x::bound, 13);
        Due.is("amount 0", () -> x.told(0, 1, 2, 0), Due.ILLEGAL);
        Due.is("amount above", () -> x.told(0, 1, 2, 1000001), Due.ILLEGAL);
        Due.is("two are one", () -> x.told(0, 1, 0, 1), Due.ILLEGAL);
        Due.is("two others are one", () -> x.told(1, 1, 0, 1), Due.ILLEGAL);
        Due.is("none such", () -> x.told(4, 4, 0, 0), Due.NO_SUCH);
        Due.is("none such, the last", () -> x.told(0, 1, -1, 1), Due.NO_SUCH);
    }

    private interface Change {
        void on(SlipHeaps x);
    }

    private static void toldStands(String what, int due, Change change) {
        SlipHeaps x = four();
        x.told(0, 1, 3, 7);
        change.on(x);
        Due.is("told rings behind " + what, () -> x.count(6), due);
        Due.is("told bound behind " + what, () -> x.told(0, 1, 2, 1), due == 1 ? 8 : 1);
    }

    private static void toldIsGone() {
        toldStands("weigh", 0, x -> x.weigh(2, 3, -20));
        toldStands("weigh beyond", 1, x -> Due.answer(() -> x.weigh(2, 3, 10001)));
        toldStands("forget", 0, x -> x.forget(2, 3));
        toldStands("a fault", 1, x -> Due.rules(x, "for ;"));
        toldStands("rules", 0, x -> Due.rules(x, "for 1;"));
        toldStands("like", 0, x -> x.like(0, 1, 5));
        toldStands("like of one", 1, x -> x.like(1, 1, 5));
        toldStands("entry", 0, x -> x.entry(0, 0, 0, 0, -1));
        toldStands("fix", 1, x -> x.fix(0, 1, true));
        toldStands("law", 1, x -> x.law(0, 1));
        toldStands("hand", 1, x -> x.join(0, 1));
        toldStands("bound", 1, SlipHeaps::bound);
        toldStands("take", 1, SlipHeaps::take);
        SlipHeaps y = Due.alike(4);
        y.weigh(0, 1, 5);
        y.weigh(1, 2, 5);
        y.weigh(0, 2, -5);
        y.told(0, 1, 2, 5);
        y.forget(0, 3);
        Due.is("nothing forgotten", () -> y.count(6), 1);
    }

    private static void toldOften() {
        SlipHeaps x = Due.alike(3);
        x.weigh(0, 1, 50);
        x.weigh(1, 2, 50);
        x.weigh(0, 2, SlipHeaps.VOID);
        for (int i = 1; i <= 40; i++) {
            Due.is("told " + i, () -> x.told(0, 1, 2, 1), i);
        }
        Due.is("a 41st", () -> x.told(0, 1, 2, 1), -3);
        Due.is("less than that", () -> x.told(0, 1, 2, 11), -2);
        Due.is("40 are there", () -> x.count(6), 40);
    }
}
