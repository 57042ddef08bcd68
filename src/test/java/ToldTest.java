/** Promises 10 to 14: weigh, forget, law, fix, loose. */
public final class ToldTest {
    public static void main(String[] args) {
        weigh();
        forget();
        manyTold();
        law();
        fix();
        manyFixed();
        wrongPairs();
        Due.close("ToldTest");
    }

    private static void weigh() {
        SlipHeaps x = Due.alike(3);
        Due.rules(x, "for 4;look if years=0;");
        Due.is("weigh", () -> x.weigh(2, 0, -10000), 1);
        Due.is("weight", () -> x.weight(0, 2), -10000);
        Due.is("why", () -> x.why(0, 2), -1);
        Due.is("in place", () -> x.weigh(0, 2, 10000), 0);
        Due.is("weight then", () -> x.weight(2, 0), 10000);
        Due.is("never", () -> x.weigh(0, 2, SlipHeaps.VOID), 0);
        Due.is("weight of never", () -> x.weight(0, 2), Due.VOID);
        Due.is("0 is told too", () -> x.weigh(0, 1, 0), 1);
        Due.is("weight 0", () -> x.weight(0, 1), 0);
        Due.is("too much", () -> x.weigh(0, 1, 10001), Due.ILLEGAL);
        Due.is("too little", () -> x.weigh(0, 1, -10001), Due.ILLEGAL);
        Due.is("no weight", () -> x.weigh(0, 1, Integer.MIN_VALUE + 1), Due.ILLEGAL);
        Due.is("told of 2", () -> x.count(2), 2);
        Due.rules(x, "for 9;");
        Due.is("rules leave it", () -> x.why(0, 1) * 10 + x.weight(0, 1), -10);
        Due.is("others are by rules", () -> x.weight(1, 2), 9);
        Due.rules(x, "look if 1=2;");
        Due.is("passed and not told by hand", () -> x.count(9), 1);
    }

    private static void forget() {
        SlipHeaps x = Due.alike(3);
        Due.rules(x, "for 4;");
        x.weigh(1, 2, SlipHeaps.VOID);
        Due.is("forget", () -> x.forget(2, 1), 1);
        Due.is("by rules again", () -> x.weight(1, 2), 4);
        Due.is("why again", () -> x.why(1, 2), 1);
        Due.is("nothing was", () -> x.forget(2, 1), 0);
        x.weigh(1, 2, 7);
        Due.rules(x, "never if 1=1;");
        x.forget(1, 2);
        Due.is("by the rules of now", () -> x.weight(1, 2), Due.VOID);
        Due.rules(x, "look if 1=2;");
        x.weigh(1, 2, 7);
        Due.is("told", () -> x.count(9), 2);
        x.forget(1, 2);
        Due.is("passed again", () -> x.count(9), 3);
    }

    private static void manyTold() {
        SlipHeaps x = Due.alike(12);
        int told = 0;
        for (int i = 0; i < 12 && told < 60; i++) {
            for (int j = 0; j < i && told < 60; j++) {
                x.weigh(i, j, 1);
                told++;
            }
        }
        Due.is("60 are told", () -> x.count(2), 60);
        Due.is("a 61st", () -> x.weigh(11, 10, 1), -1);
        Due.is("is not told", () -> x.weight(11, 10), 0);
        Due.is("in place of one", () -> x.weigh(0, 1, 2), 0);
        Due.is("a wrong 61st", () -> x.weigh(11, 10, 20000), Due.ILLEGAL);
        x.forget(0, 1);
        Due.is("room again", () -> x.weigh(11, 10, 1), 1);
    }

    private static void law() {
        SlipHeaps x = new SlipHeaps();
        Due.is("most", () -> x.law(0, 30), 0);
        Due.is("most then", () -> x.law(0, 0), 30);
        Due.is("one book", () -> x.law(1, 1), 0);
        Due.is("one book then", () -> x.law(1, 0), 1);
        Due.is("span", () -> x.law(2, 199), -1);
        Due.is("span then", () -> x.law(2, -1), 199);
        int[][] wrong = {{0, -1}, {0, 31}, {1, -1}, {1, 2}, {2, -2}, {2, 200}, {3, 0}, {-1, 0}};
        for (int[] w : wrong) {
            Due.is("law(" + w[0] + ", " + w[1] + ")", () -> x.law(w[0], w[1]), Due.ILLEGAL);
        }
        Due.is("nothing changed", () -> x.law(0, 0) * 100 + x.law(1, 0) * 10 + x.law(2, -1), -1);
        SlipHeaps y = new SlipHeaps();
        y.entry(1, 0, 0, 10, -1);
        y.entry(2, 0, 0, 30, -1);
        y.entry(1, 0, 0, 10, -1);
        y.join(0, 1);
        Due.is("no law", y::barred, -1);
        y.law(2, 20);
        Due.is("as far as that", y::barred, -1);
        y.law(2, 19);
        Due.is("further", y::barred, 1);
        y.law(2, -1);
        y.join(0, 2);
        y.law(1, 1);
        Due.is("two of a book", y::barred, 2);
        y.law(0, 2);
        y.law(1, 0);
        Due.is("one too many", y::barred, 2);
        y.law(0, 1);
        Due.is("the least of those", y::barred, 1);
    }

    private static void fix() {
        SlipHeaps x = Due.alike(4);
        Due.is("fix", () -> x.fix(0, 1, true), 1);
        Due.is("fix apart", () -> x.fix(2, 1, false), 2);
        Due.is("fixed", () -> x.fix(1, 0, false), 0);
        Due.is("it stays together", x::barred, 1);
        x.join(0, 1);
        Due.is("together", x::barred, -1);
        x.join(0, 2);
        Due.is("apart", x::barred, 2);
        Due.is("loose", () -> x.loose(1, 2), 1);
        Due.is("not fixed", () -> x.loose(1, 2), 0);
        Due.is("no more", x::barred, -1);
        Due.is("how many", () -> x.count(3), 1);
        Due.is("again", () -> x.fix(1, 2, true), 2);
    }

    private static void manyFixed() {
        SlipHeaps x = Due.alike(22);
        for (int i = 1; i <= 20; i++) {
            int n = i;
            Due.is("fix " + i, () -> x.fix(0, n, n % 2 == 0), i);
        }
        Due.is("a 21st", () -> x.fix(0, 21, true), -1);
        Due.is("one that is fixed", () -> x.fix(0, 20, false), 0);
        x.loose(0, 1);
        Due.is("room again", () -> x.fix(0, 21, true), 20);
    }

    private static void wrongPairs() {
        SlipHeaps x = Due.alike(2);
        Due.is("weigh one", () -> x.weigh(1, 1, 0), Due.ILLEGAL);
        Due.is("weigh none", () -> x.weigh(0, 2, 99999), Due.NO_SUCH);
        Due.is("forget one", () -> x.forget(1, 1), Due.ILLEGAL);
        Due.is("forget none", () -> x.forget(-1, 1), Due.NO_SUCH);
        Due.is("fix one", () -> x.fix(0, 0, true), Due.ILLEGAL);
        Due.is("fix none", () -> x.fix(2, 2, true), Due.NO_SUCH);
        Due.is("loose one", () -> x.loose(0, 0), Due.ILLEGAL);
        Due.is("loose none", () -> x.loose(0, 30), Due.NO_SUCH);
    }
}
