import java.util.ArrayList;
import java.util.List;
import java.util.NoSuchElementException;
import java.util.TreeMap;
import java.util.TreeSet;

/**
 * The document again, written for plainness alone and in another way than SlipHeaps: it works everything out anew at
 * each call, from the definitions, by looking at all heapings. Tests hold SlipHeaps against it.
 */
final class Model {
    static final int NONE = -1;
    static final int VOID = Integer.MIN_VALUE;

    interface Value {
        int of(int a, int b);
    }

    private static final class Clause {
        String sort;
        Value tells;
        Value condition;
    }

    private static final class Flaw extends Exception {
        private static final long serialVersionUID = 1;
        final int kind;
        final int place;

        Flaw(int kind, int place) {
            super("fault");
            this.kind = kind;
            this.place = place;
        }
    }

    private final List<int[]> entries = new ArrayList<>();
    private final int[][] likes = new int[16][16];
    private final List<Integer> tape = new ArrayList<>();
    private List<Clause> clauses = new ArrayList<>();
    private int faultPlace = NONE;
    private final TreeMap<Integer, Integer> byHand = new TreeMap<>();
    private final TreeMap<Integer, Boolean> fixed = new TreeMap<>();
    private final int[] laws = {0, 0, NONE};
    private List<TreeSet<Integer>> hand = new ArrayList<>();
    private final List<List<TreeSet<Integer>>> marks = new ArrayList<>();
    private final List<int[]> tellings = new ArrayList<>();

    // ---- entries

    int entry(int book, int name, int trade, int year, int father) {
        boolean fit = in(book, 0, 7) && in(name, 0, 15) && in(trade, 0, 7) && in(year, 0, 199) && in(father, -1, 15);
        illegalUnless(fit);
        if (entries.size() == 30) {
            return -1;
        }
        entries.add(new int[] {book, name, trade, year, father});
        TreeSet<Integer> single = new TreeSet<>();
        single.add(entries.size() - 1);
        hand.add(single);
        tellings.clear();
        return entries.size() - 1;
    }

    int of(int entry, int what) {
        need(entry);
        illegalUnless(in(what, 0, 7));
        if (what < 5) {
            return entries.get(entry)[what];
        }
        if (what == 5) {
            return heapWith(hand, entry).first();
        }
        TreeSet<Integer> part = partOf(entry, everyone());
        return what == 6 ? part.first() : part.size();
    }

    int like(int name, int other, int v) {
        illegalUnless(in(name, 0, 15) && in(other, 0, 15) && in(v, 0, 100));
        if (name == other) {
            return -1;
        }
        int before = likes[name][other];
        likes[name][other] = v;
        likes[other][name] = v;
        tellings.clear();
        return before;
    }

    private static boolean in(int v, int low, int high) {
        return low <= v && v <= high;
    }

    private static void illegalUnless(boolean fit) {
        if (!fit) {
            throw new IllegalArgumentException();
        }
    }

    private void need(int... all) {
        for (int e : all) {
            if (e < 0 || e >= entries.size()) {
                throw new NoSuchElementException();
            }
        }
    }

    private void needPair(int a, int b) {
        need(a, b);
        illegalUnless(a != b);
    }

    private TreeSet<Integer> everyone() {
        TreeSet<Integer> all = new TreeSet<>();
        for (int i = 0; i < entries.size(); i++) {
            all.add(i);
        }
        return all;
    }

    private static int key(int a, int b) {
        return Math.min(a, b) * 32 + Math.max(a, b);
    }

    // ---- the text

    int feed(int a, int b, int c, int d, int e) {
        if (tape.size() > 380) {
            return NONE;
        }
        for (int four : new int[] {a, b, c, d, e}) {
            tape.add(four >>> 24);
            tape.add(four >>> 16 & 255);
            tape.add(four >>> 8 & 255);
            tape.add(four & 255);
        }
        return tape.size();
    }

    int rules(int n) {
        illegalUnless(in(n, 0, tape.size()));
        StringBuilder text = new StringBuilder();
        for (int i = 0; i < n; i++) {
            text.append((char) (int) tape.get(i));
        }
        tape.clear();
        try {
            clauses = new Text(text.toString()).clauses();
        } catch (Flaw flaw) {
            faultPlace = flaw.place;
            return flaw.kind - 10;
        }
        faultPlace = NONE;
        tellings.clear();
        return clauses.size();
    }

    int fault() {
        return faultPlace;
    }

    /** Reads from the bytes themselves, and takes them as it goes. */
    private final class Text {
        private final String s;
        private int p;
        private int opened;

        Text(String s) {
            this.s = s;
        }

        private void blanks() {
            while (p < s.length() && s.charAt(p) == ' ') {
                p++;
            }
        }

        private String peekWord() {
            blanks();
            int q = p;
            while (q < s.length() && s.charAt(q) >= 'a' && s.charAt(q) <= 'z') {
                q++;
            }
            return s.substring(p, q);
        }

        private char peek() {
            blanks();
            return p < s.length() ? s.charAt(p) : (char) 0;
        }

        private boolean tryWord(String word) {
            if (peekWord().equals(word)) {
                p += word.length();
                return true;
            }
            return false;
        }

        private boolean tryByte(char c) {
            if (peek() == c) {
                p++;
                return true;
            }
            return false;
        }

        private void needByte(char c) throws Flaw {
            if (!tryByte(c)) {
                throw new Flaw(1, p);
            }
        }

        private void opens(int place) throws Flaw {
            opened++;
            if (opened == 7) {
                throw new Flaw(3, place);
            }
        }

        List<Clause> clauses() throws Flaw {
            List<Clause> read = new ArrayList<>();
            blanks();
            while (p < s.length()) {
                String sort = peekWord();
                if (!List.of("for", "against", "never", "look").contains(sort)) {
                    throw new Flaw(1, p);
                }
                if (read.size() == 16) {
                    throw new Flaw(3, p);
                }
                read.add(clause(sort));
                blanks();
            }
            return read;
        }

        private Clause clause(String sort) throws Flaw {
            tryWord(sort);
            Clause clause = new Clause();
            clause.sort = sort;
            boolean tells = sort.equals("for") || sort.equals("against");
            if (tells) {
                clause.tells = sum();
            }
            boolean withIf = tryWord("if");
            if (!withIf && !tells) {
                throw new Flaw(1, p);
            }
            if (withIf) {
                clause.condition = any();
            }
            needByte(';');
            return clause;
        }

        private Value sum() throws Flaw {
            Value left = product();
            while (true) {
                Value x = left;
                if (tryByte('+')) {
                    Value y = product();
                    left = (a, b) -> x.of(a, b) + y.of(a, b);
                } else if (tryByte('-')) {
                    Value y = product();
                    left = (a, b) -> x.of(a, b) - y.of(a, b);
                } else {
                    return left;
                }
            }
        }

        private Value product() throws Flaw {
            Value left = unit();
            while (true) {
                Value x = left;
                if (tryByte('*')) {
                    Value y = unit();
                    left = (a, b) -> x.of(a, b) * y.of(a, b);
                } else if (tryByte('/')) {
                    Value y = unit();
                    left = (a, b) -> y.of(a, b) == 0 ? 0 : (int) ((long) x.of(a, b) / y.of(a, b));
                } else {
                    return left;
                }
            }
        }

        private Value unit() throws Flaw {
            if (peek() >= '0' && peek() <= '9') {
                return number();
            }
            if (tryWord("like")) {
                return Model.this::likeOf;
            }
            if (tryWord("years")) {
                return Model.this::years;
            }
            if (tryWord("trade")) {
                return (a, b) -> trait(a, 2) == trait(b, 2) ? 1 : 0;
            }
            if (tryWord("book")) {
                return (a, b) -> trait(a, 0) == trait(b, 0) ? 1 : 0;
            }
            if (tryWord("father")) {
                return (a, b) -> trait(a, 4) >= 0 && trait(a, 4) == trait(b, 4) ? 1 : 0;
            }
            if (tryWord("other")) {
                return (a, b) -> trait(a, 4) >= 0 && trait(b, 4) >= 0 && trait(a, 4) != trait(b, 4) ? 1 : 0;
            }
            boolean least = tryWord("least");
            if (least || tryWord("most")) {
                open('(');
                Value x = sum();
                needByte(',');
                Value y = sum();
                close(')');
                return (a, b) -> least ? Math.min(x.of(a, b), y.of(a, b)) : Math.max(x.of(a, b), y.of(a, b));
            }
            open('(');
            Value inner = sum();
            close(')');
            return inner;
        }

        private void open(char c) throws Flaw {
            needByte(c);
            opens(p - 1);
        }

        private void close(char c) throws Flaw {
            needByte(c);
            opened--;
        }

        private Value number() throws Flaw {
            int start = p;
            java.math.BigInteger v = java.math.BigInteger.ZERO;
            while (p < s.length() && s.charAt(p) >= '0' && s.charAt(p) <= '9') {
                v = v.multiply(java.math.BigInteger.TEN).add(java.math.BigInteger.valueOf(s.charAt(p) - '0'));
                p++;
            }
            if (v.compareTo(java.math.BigInteger.valueOf(9999)) > 0) {
                throw new Flaw(2, start);
            }
            int n = v.intValue();
            return (a, b) -> n;
        }

        private Value any() throws Flaw {
            Value left = each();
            while (tryWord("or")) {
                Value x = left;
                Value y = each();
                left = (a, b) -> x.of(a, b) + y.of(a, b) > 0 ? 1 : 0;
            }
            return left;
        }

        private Value each() throws Flaw {
            Value left = test();
            while (tryWord("and")) {
                Value x = left;
                Value y = test();
                left = (a, b) -> x.of(a, b) + y.of(a, b) == 2 ? 1 : 0;
            }
            return left;
        }

        private Value test() throws Flaw {
            blanks();
            int start = p;
            if (tryWord("not")) {
                opens(start);
                Value x = test();
                opened--;
                return (a, b) -> x.of(a, b) == 0 ? 1 : 0;
            }
            if (peek() == '[') {
                open('[');
                Value x = any();
                close(']');
                return x;
            }
            Value x = sum();
            char r = peek();
            if (r != '<' && r != '>' && r != '=') {
                throw new Flaw(1, p);
            }
            p++;
            Value y = sum();
            return (a, b) -> {
                int sign = Integer.compare(x.of(a, b), y.of(a, b));
                return sign == (r == '<' ? -1 : r == '>' ? 1 : 0) ? 1 : 0;
            };
        }
    }

    private int trait(int e, int what) {
        return entries.get(e)[what];
    }

    private int likeOf(int a, int b) {
        return trait(a, 1) == trait(b, 1) ? 100 : likes[trait(a, 1)][trait(b, 1)];
    }

    private int years(int a, int b) {
        return Math.abs(trait(a, 3) - trait(b, 3));
    }

    // ---- what is told of a pair

    private boolean applies(Clause c, int a, int b) {
        return c.condition == null || c.condition.of(a, b) != 0;
    }

    private boolean passedByRules(int a, int b) {
        boolean looks = false;
        for (Clause c : clauses) {
            if (c.sort.equals("look")) {
                looks = true;
                if (applies(c, a, b)) {
                    return false;
                }
            }
        }
        return looks;
    }

    int weight(int a, int b) {
        needPair(a, b);
        if (byHand.containsKey(key(a, b))) {
            return byHand.get(key(a, b));
        }
        if (passedByRules(a, b)) {
            return 0;
        }
        int sum = 0;
        for (Clause c : clauses) {
            if (applies(c, a, b)) {
                if (c.sort.equals("never")) {
                    return VOID;
                }
                sum += c.sort.equals("for") ? c.tells.of(a, b) : 0;
                sum -= c.sort.equals("against") ? c.tells.of(a, b) : 0;
            }
        }
        return sum > 10000 ? 10000 : sum < -10000 ? -10000 : sum;
    }

    int why(int a, int b) {
        needPair(a, b);
        if (byHand.containsKey(key(a, b))) {
            return -1;
        }
        int bits = 0;
        if (!passedByRules(a, b)) {
            for (int i = 0; i < clauses.size(); i++) {
                bits += applies(clauses.get(i), a, b) ? 1 << i : 0;
            }
        }
        return bits;
    }

    int weigh(int a, int b, int w) {
        needPair(a, b);
        illegalUnless(w == VOID || in(w, -10000, 10000));
        boolean was = byHand.containsKey(key(a, b));
        if (!was && byHand.size() == 60) {
            return -1;
        }
        byHand.put(key(a, b), w);
        tellings.clear();
        return was ? 0 : 1;
    }

    int forget(int a, int b) {
        needPair(a, b);
        if (byHand.remove(key(a, b)) == null) {
            return 0;
        }
        tellings.clear();
        return 1;
    }

    int law(int what, int v) {
        illegalUnless(what == 0 && in(v, 0, 30) || what == 1 && in(v, 0, 1) || what == 2 && in(v, -1, 199));
        int before = laws[what];
        laws[what] = v;
        return before;
    }

    int fix(int a, int b, boolean together) {
        needPair(a, b);
        if (fixed.containsKey(key(a, b))) {
            return 0;
        }
        if (fixed.size() == 20) {
            return -1;
        }
        fixed.put(key(a, b), together);
        return fixed.size();
    }

    int loose(int a, int b) {
        needPair(a, b);
        return fixed.remove(key(a, b)) == null ? 0 : 1;
    }

    // ---- heapings

    private static TreeSet<Integer> heapWith(List<TreeSet<Integer>> heaping, int e) {
        for (TreeSet<Integer> heap : heaping) {
            if (heap.contains(e)) {
                return heap;
            }
        }
        throw new IllegalStateException();
    }

    private static List<TreeSet<Integer>> copy(List<TreeSet<Integer>> heaping) {
        List<TreeSet<Integer>> other = new ArrayList<>();
        for (TreeSet<Integer> heap : heaping) {
            if (!heap.isEmpty()) {
                other.add(new TreeSet<>(heap));
            }
        }
        other.sort((x, y) -> x.first() - y.first());
        return other;
    }

    private static List<TreeSet<Integer>> gone(List<TreeSet<Integer>> heaping, int e, int other) {
        List<TreeSet<Integer>> then = copy(heaping);
        TreeSet<Integer> to = heapWith(then, other);
        heapWith(then, e).remove(e);
        to.add(e);
        return copy(then);
    }

    private static List<TreeSet<Integer>> lone(List<TreeSet<Integer>> heaping, int e) {
        List<TreeSet<Integer>> then = copy(heaping);
        heapWith(then, e).remove(e);
        TreeSet<Integer> single = new TreeSet<>();
        single.add(e);
        then.add(single);
        return copy(then);
    }

    private static List<TreeSet<Integer>> joined(List<TreeSet<Integer>> heaping, int a, int b) {
        List<TreeSet<Integer>> then = copy(heaping);
        TreeSet<Integer> from = heapWith(then, b);
        heapWith(then, a).addAll(from);
        from.clear();
        return copy(then);
    }

    private static List<TreeSet<Integer>> swapped(List<TreeSet<Integer>> heaping, int a, int b) {
        List<TreeSet<Integer>> then = copy(heaping);
        TreeSet<Integer> x = heapWith(then, a);
        TreeSet<Integer> y = heapWith(then, b);
        x.remove(a);
        y.remove(b);
        x.add(b);
        y.add(a);
        return copy(then);
    }

    int put(int entry, int other) {
        needPair(entry, other);
        hand = gone(hand, entry, other);
        return heapWith(hand, entry).first();
    }

    boolean alone(int entry) {
        need(entry);
        boolean was = heapWith(hand, entry).size() == 1;
        hand = lone(hand, entry);
        return !was;
    }

    int join(int a, int b) {
        need(a, b);
        if (heapWith(hand, a).contains(b)) {
            return -1;
        }
        hand = joined(hand, a, b);
        return heapWith(hand, a).first();
    }

    int swap(int a, int b) {
        need(a, b);
        if (heapWith(hand, a).contains(b)) {
            return -1;
        }
        hand = swapped(hand, a, b);
        return 1;
    }

    private long costOf(List<TreeSet<Integer>> heaping) {
        long sum = 0;
        for (TreeSet<Integer> x : heaping) {
            for (TreeSet<Integer> y : heaping) {
                for (int a : x) {
                    for (int b : y) {
                        if (a < b) {
                            int w = weight(a, b);
                            sum += w == VOID ? 0 : x == y ? Math.max(0, -w) : Math.max(0, w);
                        } else if (a > b && x != y) {
                            continue;
                        }
                    }
                }
            }
        }
        return sum;
    }

    long cost() {
        return costOf(hand);
    }

    private boolean mayNot(int a, int b) {
        return weight(a, b) == VOID || fixed.getOrDefault(key(a, b), true) == false
            || laws[1] == 1 && trait(a, 0) == trait(b, 0) || laws[2] != NONE && years(a, b) > laws[2];
    }

    private boolean must(int a, int b) {
        return fixed.getOrDefault(key(a, b), false);
    }

    private boolean lawful(List<TreeSet<Integer>> heaping) {
        for (TreeSet<Integer> heap : heaping) {
            if (laws[0] > 0 && heap.size() > laws[0]) {
                return false;
            }
            for (int a : heap) {
                for (int b : heap) {
                    if (a < b && mayNot(a, b)) {
                        return false;
                    }
                }
            }
        }
        for (TreeSet<Integer> x : heaping) {
            for (TreeSet<Integer> y : heaping) {
                for (int a : x) {
                    for (int b : y) {
                        if (x != y && must(a, b)) {
                            return false;
                        }
                    }
                }
            }
        }
        return true;
    }

    int barred() {
        for (int e = 0; e < entries.size(); e++) {
            TreeSet<Integer> heap = heapWith(hand, e);
            if (laws[0] > 0 && heap.headSet(e).size() >= laws[0]) {
                return e;
            }
            for (int f = 0; f < e; f++) {
                if (heap.contains(f) ? mayNot(f, e) : must(f, e)) {
                    return e;
                }
            }
        }
        return NONE;
    }

    private final List<TreeSet<Integer>> bestChange(long[] told) {
        List<TreeSet<Integer>> found = null;
        long least = costOf(hand);
        told[1] = NONE;
        List<long[]> names = new ArrayList<>();
        List<List<TreeSet<Integer>>> results = new ArrayList<>();
        for (int e = 0; e < entries.size(); e++) {
            for (TreeSet<Integer> heap : hand) {
                if (!heap.contains(e)) {
                    names.add(new long[] {0, 0, e, heap.first()});
                    results.add(gone(hand, e, heap.first()));
                }
            }
            names.add(new long[] {0, 0, e, NONE});
            results.add(lone(hand, e));
        }
        for (TreeSet<Integer> x : hand) {
            for (TreeSet<Integer> y : hand) {
                if (x.first() < y.first()) {
                    names.add(new long[] {0, 1, x.first(), y.first()});
                    results.add(joined(hand, x.first(), y.first()));
                }
            }
        }
        for (int a = 0; a < entries.size(); a++) {
            for (int b = a + 1; b < entries.size(); b++) {
                if (!heapWith(hand, a).contains(b)) {
                    names.add(new long[] {0, 2, a, b});
                    results.add(swapped(hand, a, b));
                }
            }
        }
        for (int i = 0; i < results.size(); i++) {
            long cost = costOf(results.get(i));
            if (cost < least && lawful(results.get(i))) {
                least = cost;
                found = results.get(i);
                System.arraycopy(names.get(i), 0, told, 0, 4);
                told[0] = cost;
            }
        }
        return found;
    }

    long better(int what) {
        illegalUnless(in(what, 0, 3));
        long[] told = new long[4];
        if (!lawful(hand) || bestChange(told) == null) {
            return VOID;
        }
        return told[what];
    }

    int grow(int most) {
        illegalUnless(in(most, 0, 100));
        if (!lawful(hand)) {
            return -1;
        }
        int made = 0;
        while (made < most) {
            List<TreeSet<Integer>> then = bestChange(new long[4]);
            if (then == null) {
                break;
            }
            hand = then;
            made++;
        }
        return made;
    }

    // ---- rings

    private boolean isRing(int a, int b, int c) {
        int above = 0;
        int below = 0;
        for (int w : new int[] {weight(a, b), weight(a, c), weight(b, c)}) {
            above += w > 0 ? 1 : 0;
            below += w < 0 ? 1 : 0;
        }
        return above == 2 && below == 1;
    }

    private TreeMap<Integer, Integer> rests() {
        TreeMap<Integer, Integer> rests = new TreeMap<>();
        for (int a = 0; a < entries.size(); a++) {
            for (int b = a + 1; b < entries.size(); b++) {
                rests.put(key(a, b), weight(a, b) == VOID ? 1000000 : Math.abs(weight(a, b)));
            }
        }
        return rests;
    }

    private static int least(TreeMap<Integer, Integer> rests, int a, int b, int c) {
        return Math.min(rests.get(key(a, b)), Math.min(rests.get(key(a, c)), rests.get(key(b, c))));
    }

    private static void takes(TreeMap<Integer, Integer> rests, int a, int b, int c, int amount) {
        rests.merge(key(a, b), -amount, Integer::sum);
        rests.merge(key(a, c), -amount, Integer::sum);
        rests.merge(key(b, c), -amount, Integer::sum);
    }

    private List<int[]> allRings() {
        List<int[]> rings = new ArrayList<>();
        TreeMap<Integer, Integer> rests = rests();
        for (int a = 0; a < entries.size(); a++) {
            for (int b = a + 1; b < entries.size(); b++) {
                for (int c = b + 1; c < entries.size(); c++) {
                    if (isRing(a, b, c)) {
                        int amount = least(rests, a, b, c);
                        takes(rests, a, b, c, amount);
                        rings.add(new int[] {a, b, c, amount});
                    }
                }
            }
        }
        return rings;
    }

    long bound() {
        return allRings().stream().mapToLong(r -> r[3]).sum();
    }

    int ring(int k, int what) {
        illegalUnless(in(what, 0, 3));
        List<int[]> takers = allRings().stream().filter(r -> r[3] > 0).toList();
        return k < 0 || k >= takers.size() ? NONE : takers.get(k)[what];
    }

    int rings() {
        return allRings().size();
    }

    long told(int a, int b, int c, int amount) {
        need(a, b, c);
        illegalUnless(a != b && a != c && b != c && in(amount, 1, 1000000));
        if (!isRing(a, b, c)) {
            return -1;
        }
        TreeMap<Integer, Integer> rests = rests();
        for (int[] t : tellings) {
            takes(rests, t[0], t[1], t[2], t[3]);
        }
        if (least(rests, a, b, c) < amount) {
            return -2;
        }
        if (tellings.size() == 40) {
            return -3;
        }
        tellings.add(new int[] {a, b, c, amount});
        return tellings.stream().mapToLong(t -> t[3]).sum();
    }

    // ---- parts

    private TreeSet<Integer> partOf(int entry, TreeSet<Integer> among) {
        TreeSet<Integer> part = new TreeSet<>();
        List<Integer> todo = new ArrayList<>(List.of(entry));
        while (!todo.isEmpty()) {
            int e = todo.remove(todo.size() - 1);
            if (part.add(e)) {
                for (int f : among) {
                    if (f != e && (weight(e, f) > 0 || must(e, f))) {
                        todo.add(f);
                    }
                }
            }
        }
        return part;
    }

    private static final List<List<int[]>> CODES = new ArrayList<>();

    /** All heapings of n, each by the least of each one's heap, in the order of FIRST. */
    private static List<int[]> codes(int n) {
        while (CODES.size() <= n) {
            List<int[]> longer = new ArrayList<>();
            int k = CODES.size();
            if (k == 0) {
                longer.add(new int[0]);
            } else {
                for (int[] code : CODES.get(k - 1)) {
                    TreeSet<Integer> numbers = new TreeSet<>();
                    for (int c : code) {
                        numbers.add(c);
                    }
                    numbers.add(k - 1);
                    for (int c : numbers) {
                        int[] more = java.util.Arrays.copyOf(code, k);
                        more[k - 1] = c;
                        longer.add(more);
                    }
                }
            }
            CODES.add(longer);
        }
        return CODES.get(n);
    }

    /** A PART with the lawful ones of all its heapings (in the order of FIRST) and their costs. */
    private final class Solved {
        final List<Integer> members;
        final List<int[]> lawful = new ArrayList<>();
        final List<Long> costs = new ArrayList<>();
        long least = Long.MAX_VALUE;

        Solved(TreeSet<Integer> part) {
            members = new ArrayList<>(part);
            int n = members.size();
            boolean[][] mayNot = new boolean[n][n];
            boolean[][] must = new boolean[n][n];
            int[][] w = new int[n][n];
            for (int i = 0; i < n; i++) {
                for (int j = 0; j < i; j++) {
                    mayNot[i][j] = mayNot(members.get(i), members.get(j));
                    must[i][j] = must(members.get(i), members.get(j));
                    w[i][j] = weight(members.get(i), members.get(j));
                }
            }
            for (int[] code : codes(n)) {
                long cost = cost(code, mayNot, must, w);
                if (cost >= 0) {
                    lawful.add(code);
                    costs.add(cost);
                    least = Math.min(least, cost);
                }
            }
        }

        private long cost(int[] code, boolean[][] mayNot, boolean[][] must, int[][] w) {
            long cost = 0;
            int[] sizes = new int[code.length];
            for (int i = 0; i < code.length; i++) {
                sizes[code[i]]++;
                if (laws[0] > 0 && sizes[code[i]] > laws[0]) {
                    return -1;
                }
                for (int j = 0; j < i; j++) {
                    boolean together = code[i] == code[j];
                    if (together ? mayNot[i][j] : must[i][j]) {
                        return -1;
                    }
                    cost += w[i][j] == VOID ? 0 : together ? Math.max(0, -w[i][j]) : Math.max(0, w[i][j]);
                }
            }
            return cost;
        }

        boolean none() {
            return lawful.isEmpty();
        }

        List<int[]> bests() {
            List<int[]> bests = new ArrayList<>();
            for (int i = 0; i < lawful.size(); i++) {
                if (costs.get(i) == least) {
                    bests.add(lawful.get(i));
                }
            }
            return bests;
        }

        int heapOf(int[] code, int entry) {
            return members.get(code[members.indexOf(entry)]);
        }

        long leastWith(int a, int b, boolean together) {
            long found = -1;
            for (int i = 0; i < lawful.size(); i++) {
                boolean t = heapOf(lawful.get(i), a) == heapOf(lawful.get(i), b);
                if (t == together && (found < 0 || costs.get(i) < found)) {
                    found = costs.get(i);
                }
            }
            return found;
        }

        int odd(int[] code) {
            int odd = 0;
            for (int i = 0; i < code.length; i++) {
                for (int j = 0; j < i; j++) {
                    boolean inHand = heapWith(hand, members.get(i)).contains(members.get(j));
                    odd += inHand == (code[i] == code[j]) ? 0 : 1;
                }
            }
            return odd;
        }
    }

    private Solved solved(int entry) {
        TreeSet<Integer> part = partOf(entry, everyone());
        return part.size() > 10 ? null : new Solved(part);
    }

    long best(int entry) {
        need(entry);
        Solved s = solved(entry);
        return s == null ? -2 : s.none() ? -1 : s.least;
    }

    int many(int entry) {
        need(entry);
        Solved s = solved(entry);
        return s == null ? -2 : s.none() ? 0 : s.bests().size();
    }

    int first(int entry) {
        need(entry);
        Solved s = solved(entry);
        return s == null ? -2 : s.none() ? -1 : s.heapOf(s.bests().get(0), entry);
    }

    private long solveAll(TreeSet<Integer> among, List<TreeSet<Integer>> into) {
        long sum = 0;
        boolean big = false;
        for (int e : among) {
            TreeSet<Integer> part = partOf(e, among);
            if (part.first() != e) {
                continue;
            }
            if (part.size() > 10) {
                big = true;
                continue;
            }
            Solved s = new Solved(part);
            if (s.none()) {
                return -1;
            }
            sum += s.least;
            TreeMap<Integer, TreeSet<Integer>> heaps = new TreeMap<>();
            for (int f : part) {
                heaps.computeIfAbsent(s.heapOf(s.bests().get(0), f), x -> new TreeSet<>()).add(f);
            }
            into.addAll(heaps.values());
        }
        return big ? -2 : sum;
    }

    long all() {
        return solveAll(everyone(), new ArrayList<>());
    }

    int take() {
        List<TreeSet<Integer>> into = new ArrayList<>();
        long state = solveAll(everyone(), into);
        if (state < 0) {
            return (int) state;
        }
        hand = copy(into);
        return 1;
    }

    int always(int a, int b) {
        needPair(a, b);
        Solved s = solved(a);
        if (s == null || !s.members.contains(b) || s.none()) {
            return -2;
        }
        int together = 0;
        for (int[] code : s.bests()) {
            together += s.heapOf(code, a) == s.heapOf(code, b) ? 1 : 0;
        }
        return together == s.bests().size() ? 1 : together == 0 ? -1 : 0;
    }

    long edge(int a, int b) {
        needPair(a, b);
        Solved s = solved(a);
        if (s == null || !s.members.contains(b)) {
            return VOID;
        }
        long together = s.leastWith(a, b, true);
        long apart = s.leastWith(a, b, false);
        return together < 0 || apart < 0 ? VOID : apart - together;
    }

    int holds(int a, int b, int p) {
        needPair(a, b);
        illegalUnless(in(p, 0, 100));
        long edge = edge(a, b);
        if (edge == VOID) {
            return -2;
        }
        long sum = 0;
        TreeSet<Integer> part = partOf(a, everyone());
        for (int x : part) {
            for (int y : part) {
                if (x < y && weight(x, y) != VOID) {
                    sum += Math.abs(weight(x, y));
                }
            }
        }
        return 100 * edge > 2 * p * sum ? 1 : 100 * edge < -2 * p * sum ? -1 : 0;
    }

    private static int freePairs(List<int[]> codes, int n) {
        int free = 0;
        for (int i = 0; i < n; i++) {
            for (int j = 0; j < i; j++) {
                boolean together = false;
                boolean apart = false;
                for (int[] code : codes) {
                    together |= code[i] == code[j];
                    apart |= code[i] != code[j];
                }
                free += together && apart ? 1 : 0;
            }
        }
        return free;
    }

    int asked(int entry) {
        need(entry);
        Solved s = solved(entry);
        if (s == null || s.bests().size() > 200) {
            return -2;
        }
        int n = s.members.size();
        int fewest = Integer.MAX_VALUE;
        int answer = -1;
        for (int i = 0; i < n; i++) {
            for (int j = i + 1; j < n; j++) {
                List<int[]> together = new ArrayList<>();
                List<int[]> apart = new ArrayList<>();
                for (int[] code : s.bests()) {
                    (code[i] == code[j] ? together : apart).add(code);
                }
                if (together.isEmpty() || apart.isEmpty()) {
                    continue;
                }
                int worse = Math.max(freePairs(together, n), freePairs(apart, n));
                if (worse < fewest) {
                    fewest = worse;
                    answer = 32 * s.members.get(i) + s.members.get(j);
                }
            }
        }
        return answer;
    }

    private int[] nearOnes(Solved s, int m) {
        int[] found = null;
        for (int i = 0; i < s.lawful.size(); i++) {
            if (s.costs.get(i) <= s.least + m && (found == null || s.odd(s.lawful.get(i)) < s.odd(found))) {
                found = s.lawful.get(i);
            }
        }
        return found;
    }

    int near(int entry, int m) {
        need(entry);
        illegalUnless(in(m, 0, 100000));
        Solved s = solved(entry);
        return s == null ? -2 : s.none() ? -1 : s.odd(nearOnes(s, m));
    }

    int nearest(int entry, int m) {
        need(entry);
        illegalUnless(in(m, 0, 100000));
        Solved s = solved(entry);
        return s == null ? -2 : s.none() ? -1 : s.heapOf(nearOnes(s, m), entry);
    }

    private TreeSet<Integer> others(int book) {
        TreeSet<Integer> all = everyone();
        all.removeIf(e -> trait(e, 0) == book);
        return all;
    }

    long without(int book) {
        illegalUnless(in(book, 0, 7));
        return solveAll(others(book), new ArrayList<>());
    }

    int stands(int book) {
        illegalUnless(in(book, 0, 7));
        List<TreeSet<Integer>> whole = new ArrayList<>();
        long state = solveAll(everyone(), whole);
        if (state < 0) {
            return (int) state;
        }
        List<TreeSet<Integer>> rest = new ArrayList<>();
        state = solveAll(others(book), rest);
        if (state < 0) {
            return (int) state;
        }
        int standing = 0;
        for (TreeSet<Integer> heap : whole) {
            heap.retainAll(others(book));
            standing += rest.contains(heap) ? 1 : 0;
        }
        return standing;
    }

    // ---- marks and counts

    int mark() {
        if (marks.size() == 6) {
            return -1;
        }
        marks.add(copy(hand));
        return marks.size();
    }

    int back() {
        if (marks.isEmpty()) {
            return -1;
        }
        List<TreeSet<Integer>> then = marks.remove(marks.size() - 1);
        TreeSet<Integer> known = new TreeSet<>();
        then.forEach(known::addAll);
        for (int e : everyone()) {
            if (!known.contains(e)) {
                then.add(new TreeSet<>(List.of(e)));
            }
        }
        hand = copy(then);
        return marks.size();
    }

    int count(int what) {
        int n = entries.size();
        switch (what) {
            case 0: return n;
            case 1: return clauses.size();
            case 2: return byHand.size();
            case 3: return fixed.size();
            case 4: return hand.size();
            case 5: return (int) everyone().stream().filter(e -> partOf(e, everyone()).first() == (int) e).count();
            case 6: return tellings.size();
            case 7: return marks.size();
            case 8: return tape.size();
            case 9:
                int passed = 0;
                for (int a = 0; a < n; a++) {
                    for (int b = a + 1; b < n; b++) {
                        passed += !byHand.containsKey(key(a, b)) && passedByRules(a, b) ? 1 : 0;
                    }
                }
                return passed;
            default: return NONE;
        }
    }
}
