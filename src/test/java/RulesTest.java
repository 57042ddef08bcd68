/** Promises 5 to 9: feed, rules, fault, weight, why. */
public final class RulesTest {
    public static void main(String[] args) {
        feed();
        rulesAndTape();
        faults();
        soundTexts();
        values();
        conditions();
        verdicts();
        pairsThatAreNone();
        Due.close("RulesTest");
    }

    private static void feed() {
        SlipHeaps x = Due.alike(2);
        int f = 'f' << 24 | 'o' << 16 | 'r' << 8 | '7';
        Due.is("feed", () -> x.feed(f, ';' << 24, 0, 0, 0), 20);
        Due.is("the highest first", () -> x.rules(5), 1);
        Due.is("7", () -> x.weight(0, 1), 7);
        for (int i = 1; i <= 20; i++) {
            Due.is("feed " + i, () -> x.feed(-1, -1, -1, -1, -1), 20 * i);
        }
        Due.is("a 21st", () -> x.feed(0, 0, 0, 0, 0), -1);
        Due.is("does nothing", () -> x.count(8), 400);
        Due.is("byte 255", () -> x.rules(400), -9);
        Due.is("empty", () -> x.count(8), 0);
    }

    private static void rulesAndTape() {
        SlipHeaps x = Due.alike(2);
        Due.is("no bytes", () -> x.rules(1), Due.ILLEGAL);
        Due.is("rules(0)", () -> x.rules(0), 0);
        Due.is("two", () -> Due.rules(x, "for 3;for 4;"), 2);
        Due.is("both", () -> x.weight(0, 1), 7);
        Due.feed(x, "for 1;for ?;");
        Due.is("below 0", () -> x.rules(-1), Due.ILLEGAL);
        Due.is("beyond the tape", () -> x.rules(21), Due.ILLEGAL);
        Due.is("it stays", () -> x.count(8), 20);
        Due.is("fault of the latest", x::fault, -1);
        Due.is("a fault", () -> x.rules(12), -9);
        Due.is("its place", x::fault, 10);
        Due.is("empty", () -> x.count(8), 0);
        Due.is("the rules stay", () -> x.count(1) * 100 + x.weight(0, 1), 207);
        Due.is("no call for the fault", () -> x.rules(1), Due.ILLEGAL);
        Due.is("its place still", x::fault, 10);
        Due.feed(x, "for 1;for ?;");
        Due.is("the first n bytes alone", () -> x.rules(6), 1);
        Due.is("no fault", x::fault, -1);
        Due.is("in place of the old", () -> x.weight(0, 1), 1);
        Due.is("none again", () -> x.rules(0), 0);
        Due.is("tell nothing", () -> x.weight(0, 1), 0);
    }

    private static void fault(String text, int kind, int place) {
        SlipHeaps x = new SlipHeaps();
        Due.is("rules of '" + text + "'", () -> Due.rules(x, text), kind - 10);
        Due.is("fault of '" + text + "'", x::fault, place);
    }

    private static void faults() {
        fault("x", 1, 0);
        fault("   form 1;", 1, 3);
        fault("For 1;", 1, 0);
        fault(";", 1, 0);
        fault("5;", 1, 0);
        fault("for", 1, 3);
        fault("for   ", 1, 6);
        fault("for 1", 1, 5);
        fault("for 1 2;", 1, 6);
        fault("for 1 10000;", 1, 6);
        fault("for 1 like;", 1, 6);
        fault("for like5;", 1, 8);
        fault("for likes;", 1, 4);
        fault("forlike;", 1, 0);
        fault("for 1+;", 1, 6);
        fault("for -1;", 1, 4);
        fault("for 1--1;", 1, 6);
        fault("for 1 if;", 1, 8);
        fault("for if 1=1;", 1, 4);
        fault("never;", 1, 5);
        fault("never 5;", 1, 6);
        fault("look", 1, 4);
        fault("never if 1;", 1, 10);
        fault("never if 1==1;", 1, 11);
        fault("never if 1=1=1;", 1, 12);
        fault("never if (1=1);", 1, 11);
        fault("never if [1]=1;", 1, 11);
        fault("never if 1=1 or;", 1, 15);
        fault("never if 1=1 not 2=2;", 1, 13);
        fault("never if not;", 1, 12);
        fault("never if notx 1=1;", 1, 9);
        fault("never if [1=1;", 1, 13);
        fault("never if 1=1];", 1, 12);
        fault("for (1;", 1, 6);
        fault("for 1);", 1, 5);
        fault("for least 1,2;", 1, 10);
        fault("for least(1);", 1, 11);
        fault("for most(1,2,3);", 1, 12);
        fault("for 1\t;", 1, 5);
        fault("for 1\u00e9;", 1, 5);
        fault("for 1;;", 1, 6);
        fault("forz 1;", 1, 0);
        fault("afor 1;", 1, 0);
        fault("for` 1;", 1, 3);
        fault("for{ 1;", 1, 3);
        fault("for 1:2;", 1, 5);
        fault("for .5;", 1, 4);
        fault("for like9;", 1, 8);
        fault("for 0like;", 1, 5);
        fault("for 9 9;", 1, 6);
        fault("for 10000;", 2, 4);
        fault("for 00010000 +;", 2, 4);
        fault("for 99999999999999999999999999999;", 2, 4);
        fault("for 4294967297;", 2, 4);
        fault("for 1*  10001", 2, 8);
        fault("for ((((((((1", 3, 10);
        fault("for least(most(least(most(least(most(least(1,", 3, 42);
        fault("for ((((((least 1", 1, 16);
        fault("for ((((((least(1", 3, 15);
        fault("never if not not [not [(1=1;", 1, 25);
        fault("never if not not [not [not 1=1", 1, 30);
        fault("never if not not [not [not (((1", 3, 27);
        fault("never if not not [not [not not 1=1", 3, 27);
        fault("never if [[[[[[[", 3, 15);
        fault("never if not not not not not not [1=1", 3, 33);
        fault("never if not not not not not not (1)=1", 3, 33);
        String sixteen = "for 1;".repeat(16);
        fault(sixteen + " for ?;", 3, 97);
        fault(sixteen + " never", 3, 97);
        fault(sixteen + ";", 1, 96);
        fault(sixteen + "fort", 1, 96);
    }

    private static void sound(String text, int clauses) {
        SlipHeaps x = new SlipHeaps();
        Due.is("rules of '" + text + "'", () -> Due.rules(x, text), clauses);
        Due.is("no fault of '" + text + "'", x::fault, -1);
    }

    private static void soundTexts() {
        sound("     ", 0);
        sound("for5;", 1);
        sound("  for  5  if1=1or  2=2and 3=3  ;   never  if[1<2];  ", 2);
        sound("for 0000000000000000000000000000009999;", 1);
        sound("for ((((((1))))))+((((((1))))));", 1);
        sound("never if not not not not not not 1=1 and not not not not not not 1=1;", 1);
        sound("never if not [not [not [1=1]]] or [[[[[[1=1]]]]]];", 1);
        sound("never if not [not (((1))) = (((1)))];", 1);
        sound("for least(most(least(most(least(most(1,2),3),4),5),6),(7));", 1);
        sound("for 1;".repeat(16) + "    ", 16);
        sound("for " + "1+".repeat(197) + "1;", 1);
    }

    /** Two ENTRIES: like 60, years 5, trade 1, book 0, father 0, other 1. */
    private static SlipHeaps two() {
        SlipHeaps x = new SlipHeaps();
        x.entry(0, 0, 4, 105, 3);
        x.entry(1, 1, 4, 100, 9);
        x.like(0, 1, 60);
        return x;
    }

    private static void value(String expression, int due) {
        SlipHeaps x = two();
        Due.is("clauses of " + expression, () -> Due.rules(x, "for " + expression + ";"), 1);
        Due.is(expression, () -> x.weight(1, 0), due);
    }

    private static void values() {
        value("like", 60);
        value("years", 5);
        value("trade", 1);
        value("book", 0);
        value("father", 0);
        value("other", 1);
        value("1+2*3", 7);
        value("10-4-3", 3);
        value("100/7/2", 7);
        value("2*3/4*5", 5);
        value("(1+2)*3", 9);
        value("7/2", 3);
        value("(0-7)/2", -3);
        value("7/(0-2)", -3);
        value("like/book", 0);
        value("0/0", 0);
        value("5/0+1", 1);
        value("least(like,years)", 5);
        value("most(like,years)", 60);
        value("least(0-3,most(1,2))", -3);
        value("9999+1", 10000);
        value("9999+2", 10000);
        value("0-9999-2", -10000);
        value("9999*9999*9999/(1000*300)", 9999 * 9999 * 9999 / 300000);
        value("(0-2)*9999*9999*9999*9999/(1000*300)", -2 * 9999 * 9999 * 9999 * 9999 / 300000);
        value("256*256*256*128/(0-1)/(3000*100)", Integer.MIN_VALUE / 300000);
    }

    private static void condition(String condition, boolean due) {
        SlipHeaps x = two();
        Due.is("clauses of " + condition, () -> Due.rules(x, "for 1 if " + condition + ";"), 1);
        Due.is(condition, () -> x.weight(0, 1), due ? 1 : 0);
    }

    private static void conditions() {
        condition("like>59", true);
        condition("like>60", false);
        condition("like=60", true);
        condition("like<60", false);
        condition("0-1<0", true);
        condition("1=1 or 1=2 and 1=2", true);
        condition("[1=1 or 1=2] and 1=2", false);
        condition("not 1=2 and 1=2", false);
        condition("not [1=2 and 1=2]", true);
        condition("not not 1=1", true);
        condition("not 1=1", false);
        condition("not not not 1=1", false);
        condition("not 1=1 or 1=1", true);
        condition("1=2 or 1=2 or 1=1", true);
        condition("1=1 and 1=1 and 1=2", false);
        condition("1+1=2*1", true);
        condition("(1)=(1)", true);
    }

    private static void verdict(String text, long weight, int why, int passed) {
        SlipHeaps x = two();
        Due.rules(x, text);
        Due.is("weight by " + text, () -> x.weight(0, 1), weight);
        Due.is("why by " + text, () -> x.why(0, 1), why);
        Due.is("passed by " + text, () -> x.count(9), passed);
    }

    private static void verdicts() {
        verdict("", 0, 0, 0);
        verdict("for 5;against 7;for 1 if 1=2;", -2, 3, 0);
        verdict("against like;against 9999;against 0-1;", -10000, 7, 0);
        verdict("never if like=60;for 5;never if 1=2;", Due.VOID, 3, 0);
        verdict("for 5;look if 1=2;never if 1=1;", 0, 0, 1);
        verdict("for 5;look if 1=2;look if like=60;", 5, 5, 0);
        verdict("look if 1=1;", 0, 1, 0);
        verdict("look if book=1;look if father=1;", 0, 0, 1);
        verdict("for 9999;against 9999;for 9999*2;for 2;", 10000, 15, 0);
        verdict("for 9999*9999*21;for 9999*9999*21;", 9999 * 9999 * 21 * 2 < 0 ? -10000 : 10000, 3, 0);
        verdict("for 1 if 1=2;".repeat(15) + "for 3;", 3, 1 << 15, 0);
        SlipHeaps x = two();
        x.entry(1, 1, 4, 100, -1);
        Due.rules(x, "for 100*father+10*other+book;");
        Due.is("no father known", () -> x.weight(0, 2), 0);
        Due.is("one book", () -> x.weight(1, 2), 1);
        x.entry(2, 2, 2, 2, 9);
        Due.is("one father", () -> x.weight(1, 3), 100);
        x.entry(2, 2, 2, 2, -1);
        Due.is("both unknown", () -> x.weight(2, 4), 0);
        Due.rules(x, "for 1000*trade+years;");
        Due.is("another trade", () -> x.weight(0, 3), 103);
        Due.is("one trade", () -> x.weight(3, 4), 1000);
    }

    private static void pairsThatAreNone() {
        SlipHeaps x = two();
        Due.is("weight of one", () -> x.weight(1, 1), Due.ILLEGAL);
        Due.is("weight(0, 2)", () -> x.weight(0, 2), Due.NO_SUCH);
        Due.is("weight(-1, 0)", () -> x.weight(-1, 0), Due.NO_SUCH);
        Due.is("weight(2, 2)", () -> x.weight(2, 2), Due.NO_SUCH);
        Due.is("why of one", () -> x.why(0, 0), Due.ILLEGAL);
        Due.is("why(2, 0)", () -> x.why(2, 0), Due.NO_SUCH);
    }
}
