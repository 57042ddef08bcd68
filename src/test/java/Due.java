/** What is due of a call, and what it answered: the exceptions of the document count as answers. */
final class Due {
    static final String ILLEGAL = "throws.IllegalArgumentException";
    static final String NO_SUCH = "throws.NoSuchElementException";
    static final long VOID = Integer.MIN_VALUE;

    interface Call {
        Object run();
    }

    private static int wrong = 0;
    private static int answers = 0;
    private static String heading = "";

    private Due() {
    }

    /** What is wrong from here on is told under this heading. */
    static void under(String words) {
        heading = words.isEmpty() ? "" : words + ": ";
    }

    static int answers() {
        return answers;
    }

    static String answer(Call call) {
        try {
            Object got = call.run();
            return got instanceof Boolean b ? (b ? "1" : "0") : String.valueOf(got);
        } catch (RuntimeException e) {
            return "throws." + e.getClass().getSimpleName();
        }
    }

    static void is(String what, Call call, Object due) {
        String got = answer(call);
        answers++;
        if (!got.equals(String.valueOf(due))) {
            wrong++;
            System.out.println(heading + what + " answered " + got + ", due is " + due);
        }
    }

    static void close(String name) {
        System.out.println(wrong == 0 ? name + ": all answers are as due" : name + ": " + wrong + " answers are not as due");
        if (wrong != 0) {
            System.exit(1);
        }
    }

    /** The bytes of a text come on the TAPE (zeros behind them, up to the next twenty). */
    static void feed(SlipHeaps x, String text) {
        for (int i = 0; i < text.length(); i += 20) {
            int[] five = new int[5];
            for (int j = 0; j < 20; j++) {
                int b = i + j < text.length() ? text.charAt(i + j) : 0;
                five[j / 4] = five[j / 4] << 8 | b;
            }
            x.feed(five[0], five[1], five[2], five[3], five[4]);
        }
    }

    static int rules(SlipHeaps x, String text) {
        feed(x, text);
        return x.rules(text.length());
    }

    /** So many ENTRIES that differ in nothing. */
    static SlipHeaps alike(int n) {
        SlipHeaps x = new SlipHeaps();
        for (int i = 0; i < n; i++) {
            x.entry(0, 0, 0, 0, SlipHeaps.NONE);
        }
        return x;
    }
}
