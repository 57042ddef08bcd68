/** Made-up texts of RULES, sound and unsound ones, the same for the same seed. */
final class Texts {
    private long state;
    private int left;

    Texts(long seed) {
        state = seed * 2862933555777941757L + 3037000493L;
    }

    /** 0 to n - 1. */
    int next(int n) {
        state = state * 6364136223846793005L + 1442695040888963407L;
        return (int) ((state >>> 33) % n);
    }

    boolean chance(int hundredths) {
        return next(100) < hundredths;
    }

    private String pick(String... all) {
        return all[next(all.length)];
    }

    private String blank() {
        return chance(70) ? " " : chance(50) ? "" : "  ";
    }

    String rules() {
        StringBuilder text = new StringBuilder();
        int clauses = chance(8) ? 14 + next(5) : next(6);
        boolean tiny = clauses > 6;
        for (int i = 0; i < clauses; i++) {
            left = tiny ? 1 : 3 + next(14);
            text.append(blank()).append(clause(tiny)).append(blank()).append(";");
        }
        if (chance(30)) {
            text.append("  ");
        }
        return text.length() > 400 ? rules() : text.toString();
    }

    private String clause(boolean tiny) {
        int sort = next(10);
        if (tiny) {
            return sort < 8 ? pick("for like", "for 3", "against 1", "against years") : "never if like<2";
        }
        if (sort < 4) {
            return "for " + sum() + condition(40);
        }
        if (sort < 7) {
            return "against " + sum() + condition(50);
        }
        return (sort < 9 ? "never" : "look") + condition(100);
    }

    private String condition(int hundredths) {
        return chance(hundredths) ? " if " + any() : "";
    }

    private String sum() {
        left--;
        String s = product();
        while (left > 0 && chance(35)) {
            s += blank() + pick("+", "-") + blank() + product();
        }
        return s;
    }

    private String product() {
        left--;
        String s = unit();
        while (left > 0 && chance(25)) {
            s += blank() + pick("*", "/") + blank() + unit();
        }
        return s;
    }

    private String unit() {
        left--;
        int sort = next(12);
        if (sort < 4 || left <= 0) {
            return chance(80) ? "" + next(60) : pick("0", "9999", "5000", "0007", "10000", "99999999999", "100");
        }
        if (sort < 9) {
            return pick("like", "years", "trade", "book", "father", "other");
        }
        if (sort < 11) {
            return "(" + blank() + sum() + blank() + ")";
        }
        return pick("least", "most") + blank() + "(" + sum() + blank() + "," + blank() + sum() + ")";
    }

    private String any() {
        left--;
        String s = each();
        while (left > 0 && chance(25)) {
            s += " or " + each();
        }
        return s;
    }

    private String each() {
        left--;
        String s = test();
        while (left > 0 && chance(25)) {
            s += " and " + test();
        }
        return s;
    }

    private String test() {
        left--;
        if (left > 0 && chance(20)) {
            return "not " + test();
        }
        if (left > 0 && chance(20)) {
            return "[" + blank() + any() + "]";
        }
        return sum() + blank() + pick("<", ">", "=") + blank() + sum();
    }

    /** One or two bytes otherwise, or a deep nest. */
    String spoilt(String text) {
        StringBuilder s = new StringBuilder(text);
        if (chance(25)) {
            int at = s.indexOf("(") >= 0 ? s.indexOf("(") : s.length();
            s.insert(at, pick("((((", "(((((", "((((((", "((((((("));
        } else if (chance(25) && s.indexOf(" if ") >= 0) {
            s.insert(s.indexOf(" if ") + 4, pick("not ", "not not not ", "[[[[", "not [not [not ", "not not not not not not "));
        }
        for (int i = next(3); i > 0 && s.length() > 0; i--) {
            int at = next(s.length());
            int how = next(4);
            if (how == 0) {
                s.deleteCharAt(at);
            } else if (how == 1) {
                s.insert(at, pick(" ", ";", "(", ")", "[", "]", ",", "if", "1", "x", "+", "<", "=", "\u0000", "\u00e9", "A"));
            } else if (how == 2) {
                s.setCharAt(at, pick(" ", ";", "(", "o", "9", "-", "/").charAt(0));
            } else {
                s.setLength(at);
            }
        }
        return s.length() > 400 ? text : s.toString();
    }
}
