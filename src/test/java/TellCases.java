/** Cases of VALUES, of what CLAUSES and the hand tell of a PAIR, and of promises 8 to 11. */
final class TellCases {
    private static final int[] NO_ENTRIES = {-1, 4, 30, Integer.MIN_VALUE, Integer.MAX_VALUE};

    private TellCases() {
    }

    static void run() {
        values();
        clauses();
        sums();
        byHand();
        weight();
        why();
        weigh();
        forget();
    }

    /** Of 0 and 1 like is 60, of all others 0. */
    private static SlipHeaps four() {
        SlipHeaps x = new SlipHeaps();
        for (int i = 0; i < 4; i++) {
            x.entry(i, i, i, 10 * i, -1);
        }
        x.like(0, 1, 60);
        return x;
    }

    private static SlipHeaps by(String text) {
        SlipHeaps x = four();
        Due.is("clauses of " + text, () -> Due.rules(x, text) > 0, 1);
        return x;
    }

    private static void truth(String condition) {
        SlipHeaps x = by("for 1 if " + condition + ";");
        Due.is(condition, () -> x.weight(0, 1), 1);
    }

    private static void told(String text, long weight, int why, int passed) {
        SlipHeaps x = four();
        Due.rules(x, text);
        Due.is("weight by " + text, () -> x.weight(0, 1), weight);
        Due.is("why by " + text, () -> x.why(1, 0), why);
        Due.is("passed by " + text, () -> x.count(9), passed);
    }

    private static void values() {
        Cases.says(Cases.TERMS, "VALUES are whole numbers of 32 bits that wrap");
        truth("2048*1024*1024<0");
        truth("2048*1024*1024-1>0");
        truth("2048*1024*1024-1+1<0");
        truth("4096*1024*1024=0");
        truth("0-2048*1024*1024<0");
        truth("2048*1024*1024=0-2048*1024*1024");
        truth("2048*1024*1024-1>2048*1024*1024");
        truth("least(2048*1024*1024,0)=2048*1024*1024");
        truth("most(2048*1024*1024,0)=0");

        Cases.says(Cases.TERMS, "; / cuts");
        truth("7/2=3");
        truth("(0-7)/2=0-3");
        truth("7/(0-2)=0-3");
        truth("(0-7)/(0-2)=3");
        truth("1/2=0");
        truth("(0-1)/2=0");
        truth("2048*1024*1024/(0-1)=2048*1024*1024");
        truth("2048*1024*1024/2<0");

        Cases.says(Cases.TERMS, ", by 0 it is 0");
        truth("7/0=0");
        truth("0/0=0");
        truth("(0-7)/0=0");
        truth("5/(like-60)=0");
        truth("5/0+1=1");
        truth("5/0/0=0");
        truth("5/(4/5)=0");

        Cases.says(Cases.TERMS, "; or, and: both sides are worked.");
        truth("1=1 or 1/0=1");
        truth("1/0=1 or 1=1");
        truth("not [1=2 and 1/0=0]");
        truth("not [1/0=0 and 1=2]");
        truth("1=1 or 1=1");
        truth("not [1=2 or 1=2]");
        truth("1=1 and 1=1");
        truth("not [1=2 and 1=2]");

        Cases.says(Cases.TERMS, "There are none at first.");
        SlipHeaps x = four();
        Due.is("clauses", () -> x.count(1), 0);
        for (int i = 1; i < 4; i++) {
            int b = i;
            Due.is("weight", () -> x.weight(0, b), 0);
            Due.is("why", () -> x.why(0, b), 0);
        }
        Due.is("none is passed", () -> x.count(9), 0);
    }

    private static void clauses() {
        Cases.says(Cases.TERMS, "A CLAUSE APPLIES to a PAIR, if its C holds (or it has none).");
        told("for 5 if like=60;", 5, 1, 0);
        told("for 5 if like>60;", 0, 0, 0);
        told("for 5;", 5, 1, 0);
        told("for 5 if 1=2;for 7 if 1=1;", 7, 2, 0);

        Cases.says(Cases.TERMS, "A PAIR is PASSED, if there are CLAUSES look and none APPLIES");
        told("look if 1=2;", 0, 0, 6);
        told("look if like=60;", 0, 1, 5);
        told("look if 1=2;look if 2=3;", 0, 0, 6);
        told("look if 1=2;look if like=60;", 0, 2, 5);
        told("look if like=60;look if 1=2;", 0, 1, 5);
        told("for 5;", 5, 1, 0);

        Cases.says(Cases.TERMS, ": only CLAUSES look are worked then.");
        told("for 5;look if 1=2;never if 1=1;against 3;", 0, 0, 6);
        told("for 5;look if like=60;against 3;", 2, 7, 5);

        Cases.says(Cases.TERMS, "Else: it is NEVER, if a CLAUSE never APPLIES");
        told("never if like=60;", Due.VOID, 1, 0);
        told("never if like>60;", 0, 0, 0);
        told("never if 1=2;never if 1=1;", Due.VOID, 2, 0);
        told("look if 1=1;never if 1=1;", Due.VOID, 3, 0);
        told("never if 1=1;for 9999;", Due.VOID, 3, 0);
    }

    private static void sums() {
        Cases.says(Cases.TERMS, "; its WEIGHT is the sum of what for tells less what against tells (of those that APPLY");
        told("for 5;against 7;", -2, 3, 0);
        told("against 7;for 5;for 4;", 2, 7, 0);
        told("for 0-5;against 0-7;", 2, 3, 0);
        told("for 5;against 7 if 1=2;for 100 if 1=2;", 5, 1, 0);

        Cases.says(Cases.TERMS, "; sums wrap, too)");
        told("for 2048*1024*1024-1;for 1;", -10000, 3, 0);
        told("for 2048*1024*1024;for 0-1;", 10000, 3, 0);
        told("against 2048*1024*1024;", -10000, 1, 0);
        told("against 2048*1024*1024;against 1;", 10000, 3, 0);
        told("for 2048*1024*1024;for 2048*1024*1024;for 3;", 3, 7, 0);

        Cases.says(Cases.TERMS, ", -10,000 at least");
        told("against 9999;", -9999, 1, 0);
        told("against 9999;against 1;", -10000, 3, 0);
        told("against 9999;against 2;", -10000, 3, 0);
        told("against 9999;against 9999;against 9999;for 9999*2;", -9999, 15, 0);

        Cases.says(Cases.TERMS, ", 10,000 at most.");
        told("for 9999;", 9999, 1, 0);
        told("for 9999;for 1;", 10000, 3, 0);
        told("for 9999+2;", 10000, 1, 0);
        told("for 9999*3;against 9999*2;", 9999, 3, 0);

        Cases.says(Cases.TERMS, "WEIGHT of a PASSED one is 0.");
        told("for 5;look if 1=2;", 0, 0, 6);
        told("against 5;look if like=0;", 0, 0, 1);
        SlipHeaps x = by("for 5;look if like=60;");
        Due.is("it costs nothing", x::cost, 5);
    }

    /** So many PAIRS of 12 ENTRIES are told the weight 1 by hand. */
    private static SlipHeaps told(int n) {
        SlipHeaps x = Due.alike(12);
        int told = 0;
        for (int i = 0; i < 12; i++) {
            for (int j = i + 1; j < 12 && told < n; j++) {
                x.weigh(i, j, 1);
                told++;
            }
        }
        return x;
    }

    private static void byHand() {
        Cases.says(Cases.TERMS, "By hand a PAIR is told a WEIGHT, or NEVER, in place of that");
        SlipHeaps x = by("never if like=60;for 7;");
        Due.is("a weight", () -> x.weigh(1, 0, 3), 1);
        Due.is("in place of never", () -> x.weight(0, 1), 3);
        Due.is("never", () -> x.weigh(2, 3, SlipHeaps.VOID), 1);
        Due.is("in place of a weight", () -> x.weight(2, 3), Due.VOID);
        Due.is("all others by rules", () -> x.weight(0, 2), 7);
        Due.rules(x, "look if 1=2;");
        Due.is("in place of being passed", () -> x.weight(0, 1) * 10 + x.count(9), 34);

        Cases.says(Cases.TERMS, "; 60 at most are at one time.");
        SlipHeaps y = told(59);
        Due.is("a 60th", () -> y.weigh(10, 11, 1), 1);
        Due.is("a 61st", () -> y.weigh(10, 9, 1), -1);
        Due.is("60 are there", () -> y.count(2), 60);
        Due.is("one is gone", () -> y.forget(0, 1), 1);
        Due.is("room for one", () -> y.weigh(10, 9, 1), 1);
        Due.is("not for two", () -> y.weigh(0, 1, 1), -1);
    }

    private static void weight() {
        Cases.says(8, "WEIGHT of a PAIR");
        SlipHeaps x = by("for like+1;");
        Due.is("by rules", () -> x.weight(0, 1), 61);
        Due.is("turned round", () -> x.weight(1, 0), 61);
        Due.is("of others", () -> x.weight(3, 2), 1);
        x.like(0, 1, 59);
        Due.is("when like is another", () -> x.weight(0, 1), 60);
        x.weigh(0, 1, -10000);
        Due.is("by hand", () -> x.weight(0, 1), -10000);

        Cases.says(8, "; VOID: it is NEVER.");
        x.weigh(0, 1, SlipHeaps.VOID);
        Due.is("by hand", () -> x.weight(1, 0), Due.VOID);
        Due.rules(x, "never if like=0;");
        Due.is("by rules", () -> x.weight(2, 3), Due.VOID);

        Cases.says(8, "NoSuchElementException: no such ENTRIES");
        for (int e : NO_ENTRIES) {
            Due.is("the first", () -> x.weight(e, 0), Due.NO_SUCH);
            Due.is("the second", () -> x.weight(0, e), Due.NO_SUCH);
            Due.is("both, that are one", () -> x.weight(e, e), Due.NO_SUCH);
        }

        Cases.says(8, "; IllegalArgumentException: they are one (so below).");
        for (int i = 0; i < 4; i++) {
            int e = i;
            Due.is("one", () -> x.weight(e, e), Due.ILLEGAL);
        }
    }

    private static void why() {
        Cases.says(9, "By which CLAUSES (bits; that APPLY and were worked) the RULES tell a PAIR");
        told("", 0, 0, 0);
        told("for 1;for 1 if 1=2;against 1;never if 1=2;look if 1=1;", 0, 1 + 4 + 16, 0);
        told("never if 1=1;for 1;look if like=0;look if like=60;", Due.VOID, 1 + 2 + 8, 0);
        told("for 1;look if 1=2;", 0, 0, 6);
        told("for 1;".repeat(16), 16, 65535, 0);
        told("for 1 if 1=2;".repeat(15) + "for 1;", 1, 1 << 15, 0);
        SlipHeaps x = by("for 1 if like=60;for 0;");
        Due.is("what tells 0 too", () -> x.why(0, 2), 2);
        Due.is("both", () -> x.why(0, 1), 3);

        Cases.says(9, "; -1: it was told by hand.");
        x.weigh(0, 1, 0);
        Due.is("a weight", () -> x.why(1, 0), -1);
        x.weigh(0, 1, SlipHeaps.VOID);
        Due.is("never", () -> x.why(0, 1), -1);
        x.forget(0, 1);
        Due.is("no more", () -> x.why(0, 1), 3);
        Due.is("none such", () -> x.why(0, 4), Due.NO_SUCH);
        Due.is("none such, twice", () -> x.why(-1, -1), Due.NO_SUCH);
        Due.is("one", () -> x.why(3, 3), Due.ILLEGAL);
    }

    private static void weigh() {
        Cases.says(10, "A PAIR is told a WEIGHT by hand");
        SlipHeaps x = four();
        Due.is("10,000", () -> x.weigh(0, 1, 10000), 1);
        Due.is("is told", () -> x.weight(1, 0), 10000);
        Due.is("-10,000", () -> x.weigh(3, 2, -10000), 1);
        Due.is("is told too", () -> x.weight(2, 3), -10000);
        Due.is("0", () -> x.weigh(1, 2, 0), 1);
        Due.is("is told as well", () -> x.why(1, 2) * 10 + x.weight(1, 2), -10);

        Cases.says(10, "(VOID: NEVER): 1");
        Due.is("never", () -> x.weigh(0, 3, SlipHeaps.VOID), 1);
        Due.is("is told", () -> x.weight(3, 0), Due.VOID);
        Due.is("how many", () -> x.count(2), 4);

        Cases.says(10, "; 0: in place of one that was told");
        Due.is("a weight for a weight", () -> x.weigh(1, 0, 5), 0);
        Due.is("never for a weight", () -> x.weigh(1, 0, SlipHeaps.VOID), 0);
        Due.is("a weight for never", () -> x.weigh(0, 3, 6), 0);
        Due.is("the same again", () -> x.weigh(3, 0, 6), 0);
        Due.is("they are told", () -> x.weight(0, 3) == 6 && x.weight(0, 1) == SlipHeaps.VOID, 1);
        Due.is("how many", () -> x.count(2), 4);
        SlipHeaps y = told(60);
        Due.is("one of 60 too", () -> y.weigh(0, 1, 9), 0);
        Due.is("it is told", () -> y.weight(0, 1), 9);

        Cases.says(10, "; -1: there are 60.");
        Due.is("a 61st", () -> y.weigh(11, 10, 9), -1);
        Due.is("is not told", () -> y.weight(10, 11), 0);
        Due.is("not by hand", () -> y.why(10, 11), 0);
        Due.is("never", () -> y.weigh(11, 10, SlipHeaps.VOID), -1);
        Due.is("neither", () -> y.weight(10, 11), 0);
        Due.is("60 are there", () -> y.count(2), 60);

        Cases.says(10, "IllegalArgumentException: also the WEIGHT.");
        for (int w : new int[] {-10001, 10001, Integer.MIN_VALUE + 1, Integer.MAX_VALUE}) {
            Due.is("weigh " + w, () -> x.weigh(1, 3, w), Due.ILLEGAL);
            Due.is("a 61st of " + w, () -> y.weigh(11, 10, w), Due.ILLEGAL);
            Due.is("in place of one, " + w, () -> y.weigh(0, 1, w), Due.ILLEGAL);
            Due.is("of one, " + w, () -> x.weigh(1, 1, w), Due.ILLEGAL);
            Due.is("of none, " + w, () -> x.weigh(4, 4, w), Due.NO_SUCH);
        }
        Due.is("one", () -> x.weigh(2, 2, 5), Due.ILLEGAL);
        Due.is("none such", () -> x.weigh(0, -1, 5), Due.NO_SUCH);
        Due.is("nothing was told", () -> x.count(2) * 10 + y.weight(0, 1), 49);
    }

    private static void forget() {
        Cases.says(11, "What was told of a PAIR by hand is taken away: 1");
        SlipHeaps x = by("for 4;look if like=60;");
        x.weigh(0, 1, SlipHeaps.VOID);
        x.weigh(0, 2, 9);
        Due.is("never", () -> x.forget(1, 0), 1);
        Due.is("by rules again", () -> x.weight(0, 1), 4);
        Due.is("a weight", () -> x.forget(0, 2), 1);
        Due.is("passed again", () -> x.weight(0, 2) * 10 + x.count(9), 5);
        Due.is("none is told", () -> x.count(2), 0);
        x.weigh(0, 1, 2);
        Due.rules(x, "for 6;");
        x.forget(0, 1);
        Due.is("by the rules that are there then", () -> x.weight(0, 1) * 10 + x.why(0, 1), 61);
        x.weigh(0, 1, 2);
        Due.rules(x, "for like;");
        x.like(0, 1, 33);
        x.forget(0, 1);
        Due.is("by the like of then", () -> x.weight(0, 1), 33);

        Cases.says(11, "; 0: nothing was.");
        Due.is("again", () -> x.forget(0, 1), 0);
        Due.is("of another", () -> x.forget(2, 3), 0);
        Due.is("weights stay", () -> x.weight(0, 1), 33);
        Due.is("one", () -> x.forget(2, 2), Due.ILLEGAL);
        Due.is("none such", () -> x.forget(2, 4), Due.NO_SUCH);
        Due.is("none such, twice", () -> x.forget(-1, -1), Due.NO_SUCH);
    }
}
