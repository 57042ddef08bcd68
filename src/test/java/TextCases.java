/** Cases of the text of RULES, of FAULTS, of the TAPE, and of promises 5 to 7. */
final class TextCases {
    private static final String SIXTEEN = "for 1;".repeat(16);

    private TextCases() {
    }

    static void run() {
        text();
        expressions();
        conditions();
        signs();
        faults();
        nests();
        leastOfOne();
        feed();
        rules();
        fault();
    }

    private static void flaw(String text, int kind, int place) {
        SlipHeaps x = new SlipHeaps();
        Due.is("rules of '" + text + "'", () -> Due.rules(x, text), kind - 10);
        Due.is("fault of '" + text + "'", x::fault, place);
    }

    private static void sound(String text, int clauses) {
        SlipHeaps x = new SlipHeaps();
        Due.is("rules of '" + text + "'", () -> Due.rules(x, text), clauses);
        Due.is("fault of '" + text + "'", x::fault, -1);
        Due.is("clauses of '" + text + "'", () -> x.count(1), clauses);
    }

    /** 0 and 1 have book, trade and father alike, but no other number twice; 2 is of others; 3 has 0's name, no father. */
    private static SlipHeaps four() {
        SlipHeaps x = new SlipHeaps();
        x.entry(1, 8, 2, 110, 3);
        x.entry(1, 9, 2, 103, 3);
        x.entry(4, 10, 5, 199, 6);
        x.entry(7, 8, 0, 0, -1);
        x.like(8, 9, 60);
        return x;
    }

    private static void value(String expression, int a, int b, int due) {
        SlipHeaps x = four();
        Due.rules(x, "for " + expression + ";");
        Due.is(expression + " of " + a + " and " + b, () -> x.weight(a, b), due);
        Due.is(expression + " of " + b + " and " + a, () -> x.weight(b, a), due);
    }

    private static void truth(String condition, boolean due) {
        SlipHeaps x = four();
        Due.rules(x, "for 1 if " + condition + ";");
        Due.is(condition, () -> x.weight(0, 1), due ? 1 : 0);
    }

    private static void text() {
        Cases.says(Cases.TERMS, "RULES are a text of up to 400 bytes");
        String whole = "for " + "1+".repeat(197) + "1;";
        SlipHeaps x = four();
        Due.is("400 bytes", () -> Due.rules(x, whole), 1);
        Due.is("all of them", () -> x.weight(2, 3), 198);
        Due.is("the last byte counts", () -> {
            Due.feed(x, whole.substring(0, 399) + "?");
            return x.rules(400) * 1000 - x.fault();
        }, -9399);

        Cases.says(Cases.TERMS, ": { CLAUSE \";\" }");
        sound("", 0);
        sound("for 1;", 1);
        sound("for 1;against 2;never if 1=1;look if 1=1;", 4);
        flaw(";", 1, 0);
        flaw("for 1", 1, 5);
        flaw("for 1 for 2;", 1, 6);
        flaw("for 1;;", 1, 6);

        Cases.says(Cases.TERMS, "CLAUSE: \"for\" E or \"against\" E, and perhaps \"if\" C");
        sound("for 1;against 1;", 2);
        sound("for 1 if 1=1;against 1 if 1=1;", 2);
        flaw("for;", 1, 3);
        flaw("against;", 1, 7);
        flaw("for if 1=1;", 1, 4);
        flaw("against if 1=1;", 1, 8);
        flaw("for 1 if;", 1, 8);
        flaw("for 1 if 1=1 if 2=2;", 1, 13);

        Cases.says(Cases.TERMS, "; or \"never\" \"if\" C, or \"look\" \"if\" C.");
        sound("never if 1=1;look if 1=1;", 2);
        flaw("never;", 1, 5);
        flaw("look;", 1, 4);
        flaw("never 1 if 1=1;", 1, 6);
        flaw("look 1=1;", 1, 5);
        flaw("never if;", 1, 8);
        flaw("look if;", 1, 7);
        flaw("like;", 1, 0);
        flaw("if 1=1;", 1, 0);

        Cases.says(Cases.TERMS, "At most 16 CLAUSES.");
        sound(SIXTEEN, 16);
        flaw(SIXTEEN + "for 1;", 3, 96);
    }

    private static void expressions() {
        Cases.says(Cases.TERMS, "E: T { + or - T }.");
        value("10-4-3", 0, 1, 3);
        value("10-4+3", 0, 1, 9);
        value("10+4*3-2*5", 0, 1, 12);
        flaw("for 1+;", 1, 6);
        flaw("for 1+-1;", 1, 6);
        flaw("for +1;", 1, 4);
        flaw("for -1;", 1, 4);

        Cases.says(Cases.TERMS, "T: U { * or / U }.");
        value("100/7/2", 0, 1, 7);
        value("100/7*2", 0, 1, 28);
        value("3*100/7", 0, 1, 42);
        flaw("for 1*;", 1, 6);
        flaw("for 1/*2;", 1, 6);

        Cases.says(Cases.TERMS, "U: N (0 to 9,999)");
        value("0", 0, 1, 0);
        value("9999", 0, 1, 9999);
        flaw("for 10000;", 2, 4);

        Cases.says(Cases.TERMS, "; \"like\" (LIKE of both NAMES)");
        value("like", 0, 1, 60);
        value("like", 0, 2, 0);
        value("like", 0, 3, 100);

        Cases.says(Cases.TERMS, ", \"years\" (how far YEARS are apart)");
        value("years", 0, 1, 7);
        value("years", 2, 3, 199);

        Cases.says(Cases.TERMS, ", \"trade\", \"book\" (1 if both have the same, else 0)");
        value("trade", 0, 1, 1);
        value("trade", 0, 2, 0);
        value("book", 0, 1, 1);
        value("book", 0, 2, 0);

        Cases.says(Cases.TERMS, ", \"father\" (1 if both are known and the same, else 0)");
        value("father", 0, 1, 1);
        value("father", 0, 2, 0);
        value("father", 0, 3, 0);

        Cases.says(Cases.TERMS, ", \"other\" (1 if both FATHERS are known and not the same, else 0)");
        value("other", 0, 1, 0);
        value("other", 0, 2, 1);
        value("other", 0, 3, 0);

        Cases.says(Cases.TERMS, "; \"(\" E \")\"");
        value("(1+2)*3", 0, 1, 9);
        value("((10-(4-3)))", 0, 1, 9);
        flaw("for ();", 1, 5);
        flaw("for (1;", 1, 6);
        flaw("for (1]", 1, 6);

        Cases.says(Cases.TERMS, "; \"least\" or \"most\" \"(\" E \",\" E \")\".");
        value("least(3,4)", 0, 1, 3);
        value("least(4,3)", 0, 1, 3);
        value("most(3,4)", 0, 1, 4);
        value("most(4,3)", 0, 1, 4);
        value("least(5,5)+most(5,5)", 0, 1, 10);
        value("most(0-4,0-3)+10", 0, 1, 7);
        value("2*least(1+2,9/2)", 0, 1, 6);
        flaw("for least 1,2;", 1, 10);
        flaw("for most(1);", 1, 10);
        flaw("for least(,2);", 1, 10);
        flaw("for most(1,2;", 1, 12);
        flaw("for most(1,2,3);", 1, 12);
    }

    private static void conditions() {
        Cases.says(Cases.TERMS, "C: A { \"or\" A }.");
        truth("1=2 or 1=1", true);
        truth("1=2 or 1=2", false);
        truth("1=2 or 1=2 or 1=1", true);
        truth("1=1 or 1=1 and 1=2", true);
        flaw("never if or 1=1;", 1, 9);
        flaw("never if 1=1 or;", 1, 15);

        Cases.says(Cases.TERMS, "A: B { \"and\" B }.");
        truth("1=1 and 1=1", true);
        truth("1=1 and 1=2", false);
        truth("1=1 and 1=1 and 1=2", false);
        truth("1=2 and 1=1 or 1=1", true);
        flaw("never if 1=1 and;", 1, 16);
        flaw("never if 1=1 and or 1=1;", 1, 17);
        truth("1<2 and 1=1", true);
        truth("2>1 and 1=1", true);
        truth("1<2 and 2>1", true);

        Cases.says(Cases.TERMS, "B: \"not\" B, \"[\" C \"]\", or E R E");
        truth("not 1=2", true);
        truth("not 1=1", false);
        truth("not 1<2", false);
        truth("not 2>1", false);
        truth("not 2<1", true);
        truth("not 1>2", true);
        truth("not not 1=1", true);
        truth("not 1=2 and 1=2", false);
        truth("not 1=1 or 1=1", true);
        truth("not [1=2 and 1=2]", true);
        truth("[1=1 or 1=1] and 1=2", false);
        truth("[[1=1]]", true);
        truth("1+1=4/2", true);
        truth("(1)=(1)", true);
        flaw("never if not;", 1, 12);
        flaw("never if [];", 1, 10);
        flaw("never if [1=1;", 1, 13);
        flaw("never if [1=1);", 1, 13);
        flaw("never if 1;", 1, 10);
        flaw("never if 1=;", 1, 11);
        flaw("never if =1;", 1, 9);
        flaw("never if 1=1=1;", 1, 12);
        flaw("never if (1=1);", 1, 11);
        flaw("never if [1]=1;", 1, 11);
        flaw("never if 1=[1];", 1, 11);
        flaw("never if 1=not 1=1;", 1, 11);

        Cases.says(Cases.TERMS, "; R: <, > or =.");
        truth("like<61", true);
        truth("like<60", false);
        truth("like<59", false);
        truth("like>59", true);
        truth("like>60", false);
        truth("like>61", false);
        truth("like=59", false);
        truth("like=60", true);
        truth("like=61", false);
        truth("0-1<0", true);
        truth("0>0-1", true);
        flaw("never if 1<=1;", 1, 11);
        flaw("never if 1==1;", 1, 11);
        flaw("never if 1!1;", 1, 10);
    }

    private static void signs() {
        Cases.says(Cases.TERMS, "N: digits, as many as stand there.");
        value("00", 0, 1, 0);
        value("007", 0, 1, 7);
        value("0".repeat(300) + "9999", 0, 1, 9999);
        flaw("for 1 2;", 1, 6);
        flaw("for 1000 0;", 1, 9);
        flaw("for 00010000;", 2, 4);
        flaw("for 4294967297;", 2, 4);
        flaw("for " + "9".repeat(300) + ";", 2, 4);
        flaw("for 1:2;", 1, 5);
        flaw("for /1;", 1, 4);

        Cases.says(Cases.TERMS, "WORDS: small letters, as many as stand there");
        flaw("forlike;", 1, 0);
        flaw("for likes;", 1, 4);
        flaw("for lik;", 1, 4);
        flaw("for Like;", 1, 4);
        flaw("FOR like;", 1, 0);
        flaw("for like if1=1 orr 1=1;", 1, 15);
        flaw("never if notnot 1=1;", 1, 9);
        flaw("for li ke;", 1, 4);
        flaw("for` 1;", 1, 3);
        flaw("for{ 1;", 1, 3);
        flaw("forz 1;", 1, 0);
        flaw("fora 1;", 1, 0);
        flaw("zfor 1;", 1, 0);
        sound("for1if2=2or3=3and4=4;never if not[1=1];", 2);
        sound("for like*years/least(1,trade);", 1);

        Cases.says(Cases.TERMS, "; blanks (32) may stand ahead of all these, and at the end.");
        sound("  for  (  1  +  2  )  *  least  (  3  ,  4  )  if  not  [  1  <  2  ]  ;  ", 1);
        sound(" ".repeat(400), 0);
        sound(" ".repeat(394) + "for 1;", 1);
        sound("for 1;" + " ".repeat(394), 1);
        for (int other : new int[] {0, 9, 10, 13, 31, 33, 127, 128, 160, 255}) {
            flaw("for" + (char) other + "1;", 1, 3);
            flaw((char) other + "for 1;", 1, 0);
            flaw("for 1;" + (char) other, 1, 6);
        }
    }

    private static void faults() {
        Cases.says(Cases.TERMS, "FAULTS, the first from the left, at its first byte:");
        flaw("for 10000 if ?;", 2, 4);
        flaw("for ? 10000;", 1, 4);
        flaw("for (((((((10000;", 3, 10);
        flaw("for (((((10000(((;", 2, 9);
        flaw("for 1;   xfor;", 1, 9);
        flaw("for   likes;", 1, 6);
        flaw("for   10000;", 2, 6);
        flaw("never if 1=1 and   nott 1=1;", 1, 19);

        Cases.says(Cases.TERMS, "1 what can't stand there (at the length, if the text ends too early)");
        flaw("for", 1, 3);
        flaw("for    ", 1, 7);
        flaw("for 1", 1, 5);
        flaw("for 1  ", 1, 7);
        flaw("for 1;fo", 1, 6);
        flaw("never if [1=1", 1, 13);
        flaw("for least(1", 1, 11);
        flaw("?", 1, 0);
        SlipHeaps x = new SlipHeaps();
        Due.feed(x, "for 1;for 2;");
        Due.is("the text is n bytes", () -> x.rules(5), -9);
        Due.is("though more are on the tape", x::fault, 5);
        Due.feed(x, "for 1;for 2;");
        Due.is("a word that n cuts", () -> x.rules(8), -9);
        Due.is("is another one", x::fault, 6);
        Due.feed(x, "for 1 if 1=1;");
        Due.is("a word of which n leaves one letter", () -> x.rules(7), -9);
        Due.is("is another one too", x::fault, 6);
        Due.feed(x, "for 10000;");
        Due.is("a number that n cuts", () -> x.rules(8), -9);
        Due.is("is less", x::fault, 8);
        flaw(";".repeat(400), 1, 0);
        flaw("for 1;".repeat(15) + "for " + "1+".repeat(152) + "11", 1, 400);

        Cases.says(Cases.TERMS, "; 2 an N above 9,999");
        sound("for 9999;", 1);
        flaw("for 10000;", 2, 4);
        flaw("for 1 if like > 99999;", 2, 16);
        flaw("for 1 if 10000 > like;", 2, 9);
        flaw("for least(1,10000);", 2, 12);
        flaw("for 1*10000", 2, 6);

        Cases.says(Cases.TERMS, "; 3 a 17th CLAUSE");
        sound(SIXTEEN + "   ", 16);
        flaw(SIXTEEN + "   for 1;", 3, 99);
        flaw(SIXTEEN + "against 1;", 3, 96);
        flaw(SIXTEEN + "never", 3, 96);
        flaw(SIXTEEN + "look ?", 3, 96);
        flaw(SIXTEEN + "for 1;for 1;", 3, 96);
        sound("look if 1=1;".repeat(8) + "never if 1=1;".repeat(8), 16);
    }

    private static void nests() {
        Cases.says(Cases.TERMS, ", or a 7th of ( [ and not that is open at one time");
        sound("for ((((((1))))));", 1);
        flaw("for (((((((1)))))));", 3, 10);
        sound("never if [[[[[[1=1]]]]]];", 1);
        flaw("never if [[[[[[[1=1]]]]]]];", 3, 15);
        sound("never if not not not not not not 1=1;", 1);
        flaw("never if not not not not not not not 1=1;", 3, 33);
        sound("never if not [not [((1))=((1))]];", 1);
        flaw("never if not [not [(((1)))=1]];", 3, 21);
        flaw("never if not [not [1=(((1)))]];", 3, 23);
        flaw("never if not [not [((not", 1, 21);
        sound("for least((((((1))))),2);", 1);
        flaw("for least(((((((1)))))),2);", 3, 15);
        sound("for least(1,(((((2))))));", 1);
        flaw("for least(1,((((((2)))))));", 3, 17);
        sound("for most(most(most(most(most(most(1,2),3),4),5),6),7);", 1);
        flaw("for most(most(most(most(most(most(most(1,2),3),4),5),6),7),8);", 3, 38);
        sound("for (1)+(1)+(1)+(1)+(1)+(1)+(1)+(1)+((((((1))))));", 1);
        sound("for ((((((1))))))*((((((1)))))) if ((((((1))))))=((((((1))))));", 1);
        sound("never if [[[[[[1=1]]]]]] or [[[[[[1=1]]]]]] and [[[[[[1=1]]]]]];", 1);
        sound("for ((((((1)))))) if [[[[[[1=1]]]]]];for ((((((1))))));", 2);

        Cases.says(Cases.TERMS, "(a not till its B ends)");
        String sixNots = "not not not not not not ";
        sound("never if " + sixNots + "1=1 and " + sixNots + "1=1 or " + sixNots + "1=1;", 1);
        sound("never if " + "not 1=1 or ".repeat(20) + "1=1;", 1);
        sound("never if " + sixNots + "1=1 and [1=1];", 1);
        sound("never if [[[[[not 1=1]]]]] and [[[[[[1=1]]]]]];", 1);
        flaw("never if " + sixNots + "(1)=1;", 3, 33);
        flaw("never if " + sixNots + "1=(1);", 3, 35);
        flaw("never if " + sixNots + "[1=1];", 3, 33);
        sound("never if not [[[[[1=1 and 1=1]]]]] and not [[[[[1=1]]]]];", 1);
        flaw("never if not [[[[[1=1 and not 1=1]]]]];", 3, 26);
    }

    private static void leastOfOne() {
        Cases.says(Cases.TERMS, "; of one the least.");
        flaw(SIXTEEN + "x", 1, 96);
        flaw(SIXTEEN + ";", 1, 96);
        flaw(SIXTEEN + "10000", 1, 96);
        flaw(SIXTEEN + "fort 1;", 1, 96);
        flaw("for 1 10000;", 1, 6);
        flaw("for ((((((1 10000", 1, 12);
        flaw("10000", 1, 0);
        flaw("never 10000", 1, 6);
        flaw("for ((((((1(", 1, 11);
        flaw("never if [[[[[[1=1[", 1, 18);
        flaw("never if [[[[[[1=1 not", 1, 19);
        flaw("never if [[[[[[1=[", 1, 17);
        flaw("never if [[[[[[1=not", 1, 17);
        flaw("for ((((((not", 1, 10);
        flaw("for ((((((least 1", 1, 16);
    }

    private static void feed() {
        Cases.says(5, "Twenty bytes come on the TAPE");
        SlipHeaps x = new SlipHeaps();
        Due.is("none at first", () -> x.count(8), 0);
        Due.is("twenty", () -> x.feed(0, 0, 0, 0, 0), 20);
        Due.is("all twenty", () -> x.count(8), 20);

        Cases.says(5, ", of each number the highest first:");
        SlipHeaps y = four();
        y.feed(0x666f7220, 0x31323334, 0x20696620, 0x6c696b65, 0x3d36303b);
        Due.is("for 1234 if like=60;", () -> y.rules(20), 1);
        Due.is("1234 of which 60 is like", () -> y.weight(0, 1) * 10 + y.weight(0, 2), 12340);
        y.feed(0x666f7220, 0x31ff3b00, 0, 0, 0);
        Due.is("a byte of 255", () -> y.rules(7), -9);
        Due.is("its place", y::fault, 5);

        Cases.says(5, "how many there are");
        SlipHeaps z = four();
        for (int i = 1; i <= 20; i++) {
            Due.is("feed " + i, () -> z.feed(0x20202020, 0x20202020, 0x20202020, 0x20202020, 0x20202020), 20 * i);
        }

        Cases.says(5, "; NONE, doing nothing, if there would be more than 400.");
        Due.is("a 21st", () -> z.feed(-1, -1, -1, -1, -1), -1);
        Due.is("a 22nd", () -> z.feed(-1, -1, -1, -1, -1), -1);
        Due.is("400 are there", () -> z.count(8), 400);
        Due.is("none of them another", () -> z.rules(400), 0);
        Due.is("room again", () -> z.feed(0, 0, 0, 0, 0), 20);
    }

    private static void rules() {
        Cases.says(6, "The first n bytes of the TAPE");
        SlipHeaps x = four();
        Due.feed(x, "for 3;for 4;for 5;");
        Due.is("two of three", () -> x.rules(12), 2);
        Due.is("their sum", () -> x.weight(2, 3), 7);
        Due.feed(x, "for 3;              ");
        Due.is("all of the tape", () -> x.rules(20), 1);

        Cases.says(6, "(empty then)");
        Due.is("empty", () -> x.count(8), 0);
        Due.feed(x, "for ?;");
        x.rules(6);
        Due.is("behind a fault too", () -> x.count(8), 0);
        Due.feed(x, "for 3;for 4;for 5;");
        x.rules(6);
        Due.is("behind a few of them too", () -> x.count(8), 0);
        Due.feed(x, "for 8;");
        Due.is("what was left is no more", () -> x.rules(6) * 100 + x.weight(2, 3), 108);
        Due.feed(x, "for 8;");
        x.rules(0);
        Due.is("behind none of them too", () -> x.count(8), 0);

        Cases.says(6, "are the RULES: how many CLAUSES");
        Due.is("none", () -> x.rules(0), 0);
        Due.is("tell nothing", () -> x.weight(2, 3) + x.count(1), 0);
        Due.is("sixteen", () -> Due.rules(x, SIXTEEN), 16);
        Due.is("tell all", () -> x.weight(2, 3), 16);
        Due.is("one in place of them", () -> Due.rules(x, "for 2;") * 100 + x.weight(2, 3), 102);
        SlipHeaps often = four();
        for (int i = 0; i < 20; i++) {
            String longest = "for " + "1+".repeat(196) + i % 10 + " ;";
            int due = 196 + i % 10;
            Due.is("400 bytes again", () -> Due.rules(often, longest) * 1000 + often.weight(2, 3), 1000 + due);
        }

        Cases.says(6, "; or the FAULT less 10 (the RULES stay).");
        Due.is("1", () -> Due.rules(x, "for 5;?"), -9);
        Due.is("2", () -> Due.rules(x, "for 5;for 10000;"), -8);
        Due.is("3", () -> Due.rules(x, "for 5;".repeat(17)), -7);
        Due.is("the rules stay", () -> x.count(1) * 100 + x.weight(2, 3), 102);
        Due.is("a new entry is told by them", () -> x.entry(0, 0, 0, 0, -1) * 100 + x.weight(2, 4), 402);

        Cases.says(6, "IllegalArgumentException: n is not 0 to the TAPE's bytes (it stays).");
        Due.is("of an empty tape", () -> x.rules(1), Due.ILLEGAL);
        Due.is("0 of it", () -> x.rules(0), 0);
        Due.feed(x, "for 6;              for 7;              ");
        for (int n : new int[] {-1, 41, 400, Integer.MIN_VALUE, Integer.MAX_VALUE}) {
            Due.is("rules(" + n + ")", () -> x.rules(n), Due.ILLEGAL);
        }
        Due.is("it stays", () -> x.count(8), 40);
        Due.is("the rules too", () -> x.count(1), 0);
        Due.is("all 40", () -> x.rules(40), 2);
        Due.is("as they were", () -> x.weight(2, 3), 13);
    }

    private static void fault() {
        Cases.says(7, "The place of the FAULT of the latest rules()");
        SlipHeaps x = new SlipHeaps();
        Due.rules(x, "for 1;?");
        Due.is("6", x::fault, 6);
        Due.is("asked again", x::fault, 6);
        Due.rules(x, "for 10000;");
        Due.is("4", x::fault, 4);
        x.entry(0, 0, 0, 0, -1);
        x.feed(0, 0, 0, 0, 0);
        Due.is("what else is called leaves it", x::fault, 4);
        Due.rules(x, "");
        Due.is("a sound text has none", x::fault, -1);
        Due.rules(x, "?");
        Due.is("0", x::fault, 0);

        Cases.says(7, "; NONE without.");
        Due.is("of a new object", () -> new SlipHeaps().fault(), -1);
        Due.rules(x, "for 1;");
        Due.is("of a sound text", x::fault, -1);
    }
}
