import java.util.Arrays;
import java.util.NoSuchElementException;

/** Heaps of entries of books: which of them are one man. The document is shared/DOC.md. */
public final class SlipHeaps {
    public static final int NONE = -1;
    public static final int VOID = Integer.MIN_VALUE;

    private static final int ENTRY_LIMIT = 30;
    private static final int BOOK_LIMIT = 8;
    private static final int NAME_LIMIT = 16;
    private static final int TRADE_LIMIT = 8;
    private static final int YEAR_LIMIT = 200;
    private static final int FATHER_LIMIT = 16;
    private static final int LIKE_MOST = 100;
    private static final int FEED_BYTES = 20;
    private static final int WEIGHT_MOST = 10000;
    private static final int HAND_TOLD_LIMIT = 60;
    private static final int FIXED_LIMIT = 20;
    private static final int GROW_MOST = 100;
    private static final int AMOUNT_MOST = 1000000;
    private static final int HUNDREDTHS_MOST = 100;
    private static final int NEAR_MOST = 100000;
    private static final int BIG = -2;
    private static final int LISTED_MOST = 200;
    private static final int PART_LIMIT = 10;

    private static final int TAPE_LIMIT = 400;
    private static final int TOLD_LIMIT = 40;
    private static final int FACTS = 6;

    private static final int OP_NUMBER = 6;
    private static final int OP_NOT = 7;
    private static final int OP_ADD = 8;
    private static final int OP_SUBTRACT = 9;
    private static final int OP_MULTIPLY = 10;
    private static final int OP_DIVIDE = 11;
    private static final int OP_LEAST = 12;
    private static final int OP_MOST = 13;
    private static final int OP_BELOW = 14;
    private static final int OP_ABOVE = 15;
    private static final int OP_SAME = 16;
    private static final int OP_OR = 17;
    private static final int OP_AND = 18;

    private static final int CLAUSE_LIMIT = 16;
    private static final int STACK_LIMIT = 64;

    // Signs of the text that are no single byte are below 0; the facts' words stand in the order of the facts.
    private static final int WORD_LIKE = -1;
    private static final int WORD_YEARS = -2;
    private static final int WORD_TRADE = -3;
    private static final int WORD_BOOK = -4;
    private static final int WORD_FATHER = -5;
    private static final int WORD_OTHER = -6;
    private static final int WORD_LEAST = -7;
    private static final int WORD_MOST = -8;
    private static final int WORD_FOR = -9;
    private static final int WORD_AGAINST = -10;
    private static final int WORD_NEVER = -11;
    private static final int WORD_LOOK = -12;
    private static final int WORD_IF = -13;
    private static final int WORD_OR = -14;
    private static final int WORD_AND = -15;
    private static final int WORD_NOT = -16;
    private static final int SIGN_NUMBER = -17;
    private static final int SIGN_END = -18;
    private static final int SIGN_STRANGE = -19;

    private static final int STRAY = 1;
    private static final int TOO_LARGE = 2;
    private static final int TOO_MANY = 3;
    private static final int NUMBER_MOST = 9999;
    private static final int OPEN_MOST = 6;

    private static final int MARK_LIMIT = 6;

    private static final int GOING = 0;
    private static final int JOINING = 1;
    private static final int CHANGING = 2;

    private static final int MEASURING = 0;
    private static final int LISTING = 1;
    private static final int NEARING = 2;
    private static final int BOUNDLESS = Integer.MAX_VALUE / 2;

    private final Entries entries = new Entries();
    private final Reader reader = new Reader();
    private final Pairs pairs = new Pairs(entries);
    private final Laws laws = new Laws(entries, pairs);
    private final Hand hand = new Hand(pairs, laws);
    private final Changes changes = new Changes(hand, pairs, laws);
    private final Rings packs = new Rings(pairs);
    private final Parts parts = new Parts(pairs, laws);
    private final Part part = new Part(pairs, laws);
    private final Search search = new Search(part);
    private final int[] firstOfAll = new int[ENTRY_LIMIT];
    private final int[] firstOfOthers = new int[ENTRY_LIMIT];

    public SlipHeaps() {
    }

    public int entry(int book, int name, int trade, int year, int father) throws IllegalArgumentException {
        refuseUnless(isWithin(book, 0, BOOK_LIMIT - 1));
        refuseUnless(isWithin(name, 0, NAME_LIMIT - 1));
        refuseUnless(isWithin(trade, 0, TRADE_LIMIT - 1));
        refuseUnless(isWithin(year, 0, YEAR_LIMIT - 1));
        refuseUnless(isWithin(father, NONE, FATHER_LIMIT - 1));
        if (entries.size >= ENTRY_LIMIT) {
            return -1;
        }
        int number = entries.add(book, name, trade, year, father);
        pairs.judgeFrom(number);
        hand.welcome();
        packs.wipe();
        return number;
    }

    public int of(int entry, int what) throws NoSuchElementException, IllegalArgumentException {
        needEntry(entry);
        refuseUnless(isWithin(what, 0, 7));
        if (what < 5) {
            return entries.trait(entry, what);
        }
        if (what == 5) {
            return hand.heap[entry];
        }
        int members = membersOfPart(entry);
        return what == 6 ? Integer.numberOfTrailingZeros(members) : Integer.bitCount(members);
    }

    public int like(int name, int other, int v) throws IllegalArgumentException {
        refuseUnless(isWithin(name, 0, NAME_LIMIT - 1));
        refuseUnless(isWithin(other, 0, NAME_LIMIT - 1));
        refuseUnless(isWithin(v, 0, LIKE_MOST));
        if (name == other) {
            return -1;
        }
        int before = entries.setLikeness(name, other, v);
        pairs.judgeFrom(0);
        packs.wipe();
        return before;
    }

    public int feed(int a, int b, int c, int d, int e) {
        if (reader.filled + FEED_BYTES > TAPE_LIMIT) {
            return NONE;
        }
        reader.takeIn(a);
        reader.takeIn(b);
        reader.takeIn(c);
        reader.takeIn(d);
        reader.takeIn(e);
        return reader.filled;
    }

    public int rules(int n) throws IllegalArgumentException {
        refuseUnless(isWithin(n, 0, reader.filled));
        if (!reader.read(n)) {
            return reader.kind - 10;
        }
        Rules fresh = reader.draft;
        reader.draft = pairs.rules;
        pairs.rules = fresh;
        pairs.judgeFrom(0);
        packs.wipe();
        return fresh.clauses;
    }

    public int fault() {
        return reader.place;
    }

    public int weight(int a, int b) throws NoSuchElementException, IllegalArgumentException {
        needPair(a, b);
        return pairs.isNever(a, b) ? VOID : pairs.pull(a, b);
    }

    public int why(int a, int b) throws NoSuchElementException, IllegalArgumentException {
        needPair(a, b);
        return pairs.isByHand(a, b) ? -1 : pairs.reasons(a, b);
    }

    public int weigh(int a, int b, int w) throws NoSuchElementException, IllegalArgumentException {
        needPair(a, b);
        refuseUnless(w == VOID || isWithin(w, -WEIGHT_MOST, WEIGHT_MOST));
        boolean anew = !pairs.isByHand(a, b);
        if (anew && pairs.byHandCount >= HAND_TOLD_LIMIT) {
            return -1;
        }
        pairs.tellByHand(a, b, w);
        packs.wipe();
        return anew ? 1 : 0;
    }

    public int forget(int a, int b) throws NoSuchElementException, IllegalArgumentException {
        needPair(a, b);
        if (!pairs.isByHand(a, b)) {
            return 0;
        }
        pairs.forgetByHand(a, b);
        packs.wipe();
        return 1;
    }

    public int law(int what, int v) throws IllegalArgumentException {
        refuseUnless(isWithin(what, 0, 2));
        int least = what == 2 ? NONE : 0;
        int largest = what == 0 ? ENTRY_LIMIT : what == 1 ? 1 : YEAR_LIMIT - 1;
        refuseUnless(isWithin(v, least, largest));
        return laws.change(what, v);
    }

    public int fix(int a, int b, boolean together) throws NoSuchElementException, IllegalArgumentException {
        needPair(a, b);
        if (laws.isFixed(a, b)) {
            return 0;
        }
        if (laws.fixedCount >= FIXED_LIMIT) {
            return -1;
        }
        laws.bind(a, b, together);
        return laws.fixedCount;
    }

    public int loose(int a, int b) throws NoSuchElementException, IllegalArgumentException {
        needPair(a, b);
        if (!laws.isFixed(a, b)) {
            return 0;
        }
        laws.unbind(a, b);
        return 1;
    }

    public int put(int entry, int other) throws NoSuchElementException, IllegalArgumentException {
        needPair(entry, other);
        hand.moveTo(entry, hand.heap[other]);
        return hand.heap[entry];
    }

    public boolean alone(int entry) throws NoSuchElementException {
        needEntry(entry);
        if (hand.isAlone(entry)) {
            return false;
        }
        hand.moveOut(entry);
        return true;
    }

    public int join(int a, int b) throws NoSuchElementException {
        needEntry(a);
        needEntry(b);
        if (hand.heap[a] == hand.heap[b]) {
            return -1;
        }
        hand.unite(hand.heap[a], hand.heap[b]);
        return hand.heap[a];
    }

    public int swap(int a, int b) throws NoSuchElementException {
        needEntry(a);
        needEntry(b);
        if (hand.heap[a] == hand.heap[b]) {
            return -1;
        }
        hand.exchange(a, b);
        return 1;
    }

    public long cost() {
        return hand.price();
    }

    public int barred() {
        return hand.offender();
    }

    public long better(int what) throws IllegalArgumentException {
        refuseUnless(isWithin(what, 0, 3));
        if (hand.offender() != NONE) {
            return VOID;
        }
        changes.prepare();
        changes.seek();
        if (changes.sort == NONE) {
            return VOID;
        }
        if (what == 0) {
            return changes.leastCost;
        }
        return what == 1 ? changes.sort : what == 2 ? changes.one : changes.two;
    }

    public int grow(int most) throws IllegalArgumentException {
        refuseUnless(isWithin(most, 0, GROW_MOST));
        if (hand.offender() != NONE) {
            return -1;
        }
        changes.prepare();
        int made = 0;
        for (int i = 0; i < most; i++) {
            changes.seek();
            if (changes.sort == NONE) {
                break;
            }
            changes.make();
            made++;
        }
        return made;
    }

    public long bound() {
        packs.pack(NONE);
        return packs.packedBound;
    }

    public int ring(int k, int what) throws IllegalArgumentException {
        refuseUnless(isWithin(what, 0, 3));
        if (k < 0) {
            return NONE;
        }
        packs.pack(k);
        return packs.hit(what);
    }

    public int rings() {
        return packs.howMany();
    }

    public long told(int a, int b, int c, int amount) throws NoSuchElementException, IllegalArgumentException {
        needEntry(a);
        needEntry(b);
        needEntry(c);
        refuseUnless(a != b && b != c && a != c);
        refuseUnless(isWithin(amount, 1, AMOUNT_MOST));
        if (!packs.isRing(a, b, c)) {
            return -1;
        }
        if (!packs.canTake(a, b, c, amount)) {
            return -2;
        }
        if (packs.toldCount >= TOLD_LIMIT) {
            return -3;
        }
        packs.tell(a, b, c, amount);
        return packs.toldBound;
    }

    public long best(int entry) throws NoSuchElementException {
        needEntry(entry);
        int state = solve(membersOfPart(entry));
        return state < 0 ? state : search.leastCost;
    }

    public int many(int entry) throws NoSuchElementException {
        needEntry(entry);
        int state = listPartOf(entry);
        return state == BIG ? BIG : state < 0 ? 0 : search.ways;
    }

    public int first(int entry) throws NoSuchElementException {
        needEntry(entry);
        int state = listPartOf(entry);
        return state < 0 ? state : search.heapOf(entry);
    }

    public long all() {
        return solveAmong(entries.everyone(), firstOfAll);
    }

    public int take() {
        long state = solveAmong(entries.everyone(), firstOfAll);
        if (state < 0) {
            return (int) state;
        }
        hand.become(firstOfAll);
        return 1;
    }

    public int always(int a, int b) throws NoSuchElementException, IllegalArgumentException {
        needPair(a, b);
        return listPartOf(a) < 0 ? -2 : search.togetherness(a, b);
    }

    public long edge(int a, int b) throws NoSuchElementException, IllegalArgumentException {
        needPair(a, b);
        return edgeOf(a, b);
    }

    public int holds(int a, int b, int p) throws NoSuchElementException, IllegalArgumentException {
        needPair(a, b);
        refuseUnless(isWithin(p, 0, HUNDREDTHS_MOST));
        long edge = edgeOf(a, b);
        if (edge == VOID) {
            return -2;
        }
        long far = 2L * p * part.amounts();
        return 100L * edge > far ? 1 : 100L * edge < -far ? -1 : 0;
    }

    public int asked(int entry) throws NoSuchElementException {
        needEntry(entry);
        int state = listPartOf(entry);
        if (state < 0) {
            return state;
        }
        return search.ways > LISTED_MOST ? BIG : search.question();
    }

    public int near(int entry, int m) throws NoSuchElementException, IllegalArgumentException {
        needEntry(entry);
        refuseUnless(isWithin(m, 0, NEAR_MOST));
        int state = nearPartOf(entry, m);
        return state < 0 ? state : search.fewest;
    }

    public int nearest(int entry, int m) throws NoSuchElementException, IllegalArgumentException {
        needEntry(entry);
        refuseUnless(isWithin(m, 0, NEAR_MOST));
        int state = nearPartOf(entry, m);
        return state < 0 ? state : search.heapOf(entry);
    }

    public long without(int book) throws IllegalArgumentException {
        refuseUnless(isWithin(book, 0, BOOK_LIMIT - 1));
        return solveAmong(entries.notOfBook(book), firstOfOthers);
    }

    public int stands(int book) throws IllegalArgumentException {
        refuseUnless(isWithin(book, 0, BOOK_LIMIT - 1));
        long state = solveAmong(entries.everyone(), firstOfAll);
        if (state < 0) {
            return (int) state;
        }
        int others = entries.notOfBook(book);
        state = solveAmong(others, firstOfOthers);
        if (state < 0) {
            return (int) state;
        }
        int standing = 0;
        for (int i = 0; i < entries.size; i++) {
            int kept = maskOf(firstOfAll, i) & others;
            if (kept != 0 && kept == maskOf(firstOfOthers, Integer.numberOfTrailingZeros(kept))) {
                standing++;
            }
        }
        return standing;
    }

    public int mark() {
        return hand.keep() ? hand.marks : -1;
    }

    public int back() {
        return hand.restore() ? hand.marks : -1;
    }

    public int count(int what) {
        switch (what) {
            case 0:
                return entries.size;
            case 1:
                return pairs.rules.clauses;
            case 2:
                return pairs.byHandCount;
            case 3:
                return laws.fixedCount;
            case 4:
                return hand.heapCount();
            case 5:
                return parts.find(entries.everyone());
            case 6:
                return packs.toldCount;
            case 7:
                return hand.marks;
            case 8:
                return reader.filled;
            case 9:
                return pairs.passedCount();
            default:
                return NONE;
        }
    }

    private static boolean isWithin(int value, int least, int largest) {
        return value >= least && value <= largest;
    }

    private static void refuseUnless(boolean fit) {
        if (!fit) {
            throw new IllegalArgumentException();
        }
    }

    private void needEntry(int entry) {
        if (entry < 0 || entry >= entries.size) {
            throw new NoSuchElementException();
        }
    }

    private void needPair(int a, int b) {
        needEntry(a);
        needEntry(b);
        refuseUnless(a != b);
    }

    private int membersOfPart(int entry) {
        parts.find(entries.everyone());
        return parts.membersWith(entry);
    }

    /** 1: the search knows what the BEST of the PART costs; -1: there is none; -2: the PART is too big. */
    private int solve(int members) {
        if (Integer.bitCount(members) > PART_LIMIT) {
            return BIG;
        }
        part.load(members);
        return search.measure() ? 1 : -1;
    }

    /** Likewise, and the search knows all BEST ones. */
    private int listPartOf(int entry) {
        int state = solve(membersOfPart(entry));
        if (state > 0) {
            search.list();
        }
        return state;
    }

    /** COST of the BEST of all ENTRIES in the mask, its FIRST in the row; a PART without a BEST goes before a big one. */
    private long solveAmong(int mask, int[] row) {
        parts.find(mask);
        Arrays.fill(row, NONE);
        long sum = 0;
        boolean big = false;
        for (int i = 0; i < entries.size; i++) {
            if (parts.number[i] != i) {
                continue;
            }
            int state = solve(parts.membersWith(i));
            if (state == -1) {
                return -1;
            }
            if (state == BIG) {
                big = true;
            } else {
                sum += search.leastCost;
                search.list();
                search.copyFirst(row);
            }
        }
        return big ? BIG : sum;
    }

    private long edgeOf(int a, int b) {
        int members = membersOfPart(a);
        if (Integer.bitCount(members) > PART_LIMIT || (members >>> b & 1) == 0) {
            return VOID;
        }
        part.load(members);
        part.settle(a, b, true);
        if (!search.measure()) {
            return VOID;
        }
        long together = search.leastCost;
        part.load(members);
        part.settle(a, b, false);
        return search.measure() ? search.leastCost - together : VOID;
    }

    private int nearPartOf(int entry, int m) {
        int state = solve(membersOfPart(entry));
        if (state > 0) {
            part.lookAt(hand.heap);
            search.approach(m);
        }
        return state;
    }

    private int maskOf(int[] row, int number) {
        int mask = 0;
        for (int i = 0; i < entries.size; i++) {
            if (row[i] == number) {
                mask |= 1 << i;
            }
        }
        return mask;
    }

    /** What is known of each ENTRY, and how like NAMES are. */
    private static final class Entries {
        int size;
        private final int[] traits = new int[ENTRY_LIMIT * 5];
        private final int[] likeness = new int[NAME_LIMIT * NAME_LIMIT];

        int add(int book, int name, int trade, int year, int father) {
            int at = size * 5;
            traits[at] = book;
            traits[at + 1] = name;
            traits[at + 2] = trade;
            traits[at + 3] = year;
            traits[at + 4] = father;
            size++;
            return size - 1;
        }

        int trait(int entry, int which) {
            return traits[entry * 5 + which];
        }

        int setLikeness(int name, int other, int v) {
            int before = likeness[name * NAME_LIMIT + other];
            likeness[name * NAME_LIMIT + other] = v;
            likeness[other * NAME_LIMIT + name] = v;
            return before;
        }

        int everyone() {
            return (1 << size) - 1;
        }

        int notOfBook(int book) {
            int mask = 0;
            for (int i = 0; i < size; i++) {
                if (trait(i, 0) != book) {
                    mask |= 1 << i;
                }
            }
            return mask;
        }

        int yearsBetween(int a, int b) {
            return Math.abs(trait(a, 3) - trait(b, 3));
        }

        boolean sameBook(int a, int b) {
            return trait(a, 0) == trait(b, 0);
        }

        private int likeOf(int a, int b) {
            int name = trait(a, 1);
            int other = trait(b, 1);
            return name == other ? LIKE_MOST : likeness[name * NAME_LIMIT + other];
        }

        /** The facts stand in the order of the words "like" to "other". */
        void compare(int a, int b, int[] facts) {
            int father = trait(a, 4);
            int other = trait(b, 4);
            boolean known = father != NONE && other != NONE;
            facts[0] = likeOf(a, b);
            facts[1] = yearsBetween(a, b);
            facts[2] = trait(a, 2) == trait(b, 2) ? 1 : 0;
            facts[3] = sameBook(a, b) ? 1 : 0;
            facts[4] = known && father == other ? 1 : 0;
            facts[5] = known && father != other ? 1 : 0;
        }
    }

    /** CLAUSES as steps of a stack machine (steps below 6 push a fact), and what they tell of one PAIR. */
    private static final class Rules {
        int clauses;
        int verdict;
        int reasons;
        boolean never;
        boolean passed;
        private int steps;
        private final int[] sorts = new int[CLAUSE_LIMIT];
        private final int[] starts = new int[CLAUSE_LIMIT + 1];
        private final int[] conditions = new int[CLAUSE_LIMIT];
        private final int[] code = new int[TAPE_LIMIT];
        private final int[] numbers = new int[TAPE_LIMIT];
        private final int[] stack = new int[STACK_LIMIT];

        void clear() {
            clauses = 0;
            steps = 0;
        }

        boolean isFull() {
            return clauses >= CLAUSE_LIMIT;
        }

        void emit(int step, int number) {
            if (steps < TAPE_LIMIT) {
                code[steps] = step;
                numbers[steps] = number;
                steps++;
            }
        }

        void open(int sort) {
            sorts[clauses] = sort;
            starts[clauses] = steps;
        }

        void beginCondition() {
            conditions[clauses] = steps;
        }

        void close() {
            clauses++;
            starts[clauses] = steps;
        }

        void judge(int[] facts) {
            verdict = 0;
            reasons = 0;
            never = false;
            boolean looked = workLooks(facts);
            passed = looked && reasons == 0;
            if (!passed) {
                workOthers(facts);
            }
            verdict = Math.max(-WEIGHT_MOST, Math.min(WEIGHT_MOST, verdict));
        }

        private boolean workLooks(int[] facts) {
            boolean any = false;
            for (int c = 0; c < clauses; c++) {
                if (sorts[c] == WORD_LOOK) {
                    any = true;
                    if (applies(c, facts)) {
                        reasons |= 1 << c;
                    }
                }
            }
            return any;
        }

        private void workOthers(int[] facts) {
            for (int c = 0; c < clauses; c++) {
                if (sorts[c] == WORD_LOOK || !applies(c, facts)) {
                    continue;
                }
                reasons |= 1 << c;
                if (sorts[c] == WORD_NEVER) {
                    never = true;
                } else {
                    int told = work(starts[c], conditions[c], facts);
                    verdict = sorts[c] == WORD_FOR ? verdict + told : verdict - told;
                }
            }
        }

        private boolean applies(int c, int[] facts) {
            boolean bare = conditions[c] == starts[c + 1];
            return bare || work(conditions[c], starts[c + 1], facts) != 0;
        }

        private int work(int from, int to, int[] facts) {
            int top = 0;
            for (int i = from; i < to; i++) {
                int step = code[i];
                if (step <= OP_NUMBER) {
                    if (top < STACK_LIMIT) {
                        stack[top] = step < FACTS ? facts[step] : numbers[i];
                        top++;
                    }
                } else if (step == OP_NOT) {
                    if (top >= 1) {
                        stack[top - 1] = 1 - stack[top - 1];
                    }
                } else if (top >= 2) {
                    stack[top - 2] = combine(step, stack[top - 2], stack[top - 1]);
                    top--;
                }
            }
            return top >= 1 ? stack[top - 1] : 0;
        }

        private static int combine(int step, int x, int y) {
            switch (step) {
                case OP_ADD:
                    return x + y;
                case OP_SUBTRACT:
                    return x - y;
                case OP_MULTIPLY:
                    return x * y;
                case OP_DIVIDE:
                    return y == 0 ? 0 : x / y;
                case OP_LEAST:
                    return x < y ? x : y;
                case OP_MOST:
                    return x > y ? x : y;
                case OP_BELOW:
                    return x < y ? 1 : 0;
                case OP_ABOVE:
                    return x > y ? 1 : 0;
                case OP_SAME:
                    return x == y ? 1 : 0;
                case OP_OR:
                    return x | y;
                default:
                    return x & y;
            }
        }
    }

    /** The TAPE, and the reading of a text from it into draft RULES: first all its signs, then what they say. */
    private static final class Reader {
        int filled;
        int kind;
        int place = NONE;
        Rules draft = new Rules();
        private final int[] tape = new int[TAPE_LIMIT];
        private final int[] signs = new int[TAPE_LIMIT + 1];
        private final int[] places = new int[TAPE_LIMIT + 1];
        private final int[] values = new int[TAPE_LIMIT + 1];
        private int sign;
        private int at;

        void takeIn(int four) {
            for (int shift = 24; shift >= 0; shift -= 8) {
                if (filled < TAPE_LIMIT) {
                    tape[filled] = (four >>> shift) & 255;
                    filled++;
                }
            }
        }

        /** Empties the TAPE; true: the draft holds the RULES, false: kind and place tell the FAULT. */
        boolean read(int n) {
            scan(n);
            filled = 0;
            kind = 0;
            place = NONE;
            draft.clear();
            at = 0;
            sign = signs[0];
            for (int c = 0; c <= CLAUSE_LIMIT && sign != SIGN_END; c++) {
                if (!readClause()) {
                    return false;
                }
            }
            return true;
        }

        private void scan(int n) {
            int count = 0;
            for (int i = 0; i < n; i++) {
                int first = tape[i];
                if (first == ' ' || i > 0 && goesOn(tape[i - 1], first)) {
                    continue;
                }
                places[count] = i;
                signs[count] = isLetter(first) ? wordAt(i, n) : isDigit(first) ? SIGN_NUMBER : first;
                values[count] = isDigit(first) ? numberAt(i, n) : 0;
                count++;
            }
            places[count] = n;
            signs[count] = SIGN_END;
        }

        private static boolean goesOn(int before, int next) {
            return isLetter(before) && isLetter(next) || isDigit(before) && isDigit(next);
        }

        private static boolean isLetter(int sign) {
            return sign >= 'a' && sign <= 'z';
        }

        private static boolean isDigit(int sign) {
            return sign >= '0' && sign <= '9';
        }

        /** Above the most that may stand it is only known to be too large. */
        private int numberAt(int start, int n) {
            int value = 0;
            for (int i = start; i < n && isDigit(tape[i]) && value <= NUMBER_MOST; i++) {
                value = value * 10 + tape[i] - '0';
            }
            return value;
        }

        private int wordAt(int start, int n) {
            int end = start;
            while (end < n && isLetter(tape[end])) {
                end++;
            }
            for (int word = WORD_LIKE; word >= WORD_NOT; word--) {
                if (isSpelt(spelling(word), start, end)) {
                    return word;
                }
            }
            return SIGN_STRANGE;
        }

        private boolean isSpelt(String word, int start, int end) {
            if (word.length() != end - start) {
                return false;
            }
            for (int i = 0; i < word.length(); i++) {
                if (word.charAt(i) != tape[start + i]) {
                    return false;
                }
            }
            return true;
        }

        private static String spelling(int word) {
            switch (word) {
                case WORD_LIKE:
                    return "like";
                case WORD_YEARS:
                    return "years";
                case WORD_TRADE:
                    return "trade";
                case WORD_BOOK:
                    return "book";
                case WORD_FATHER:
                    return "father";
                case WORD_OTHER:
                    return "other";
                case WORD_LEAST:
                    return "least";
                case WORD_MOST:
                    return "most";
                case WORD_FOR:
                    return "for";
                case WORD_AGAINST:
                    return "against";
                case WORD_NEVER:
                    return "never";
                case WORD_LOOK:
                    return "look";
                case WORD_IF:
                    return "if";
                case WORD_OR:
                    return "or";
                case WORD_AND:
                    return "and";
                default:
                    return "not";
            }
        }

        private void advance() {
            if (sign != SIGN_END) {
                at++;
                sign = signs[at];
            }
        }

        private boolean refuse(int fault) {
            kind = fault;
            place = places[at];
            return false;
        }

        private boolean pass(int due) {
            if (sign != due) {
                return refuse(STRAY);
            }
            advance();
            return true;
        }

        private boolean open(int due, int depth) {
            if (sign == due && depth >= OPEN_MOST) {
                return refuse(TOO_MANY);
            }
            return pass(due);
        }

        private boolean emit(int step) {
            draft.emit(step, values[at]);
            return true;
        }

        private boolean readClause() {
            int sort = sign;
            boolean tells = sort == WORD_FOR || sort == WORD_AGAINST;
            if (!tells && sort != WORD_NEVER && sort != WORD_LOOK) {
                return refuse(STRAY);
            }
            if (draft.isFull()) {
                return refuse(TOO_MANY);
            }
            draft.open(sort);
            advance();
            if (tells && !readSum(0)) {
                return false;
            }
            draft.beginCondition();
            if (!tells || sign == WORD_IF) {
                if (!pass(WORD_IF) || !readAny(0)) {
                    return false;
                }
            }
            if (!pass(';')) {
                return false;
            }
            draft.close();
            return true;
        }

        private boolean readSum(int depth) {
            if (!readProduct(depth)) {
                return false;
            }
            for (int i = 0; i < TAPE_LIMIT && (sign == '+' || sign == '-'); i++) {
                int step = sign == '+' ? OP_ADD : OP_SUBTRACT;
                advance();
                if (!readProduct(depth)) {
                    return false;
                }
                emit(step);
            }
            return true;
        }

        private boolean readProduct(int depth) {
            if (!readUnit(depth)) {
                return false;
            }
            for (int i = 0; i < TAPE_LIMIT && (sign == '*' || sign == '/'); i++) {
                int step = sign == '*' ? OP_MULTIPLY : OP_DIVIDE;
                advance();
                if (!readUnit(depth)) {
                    return false;
                }
                emit(step);
            }
            return true;
        }

        private boolean readUnit(int depth) {
            if (sign == SIGN_NUMBER) {
                if (values[at] > NUMBER_MOST) {
                    return refuse(TOO_LARGE);
                }
                emit(OP_NUMBER);
                advance();
                return true;
            }
            if (sign <= WORD_LIKE && sign >= WORD_OTHER) {
                emit(WORD_LIKE - sign);
                advance();
                return true;
            }
            if (sign == WORD_LEAST || sign == WORD_MOST) {
                int step = sign == WORD_LEAST ? OP_LEAST : OP_MOST;
                advance();
                return open('(', depth) && readSum(depth + 1) && pass(',')
                    && readSum(depth + 1) && pass(')') && emit(step);
            }
            return open('(', depth) && readSum(depth + 1) && pass(')');
        }

        private boolean readAny(int depth) {
            if (!readEach(depth)) {
                return false;
            }
            for (int i = 0; i < TAPE_LIMIT && sign == WORD_OR; i++) {
                advance();
                if (!readEach(depth)) {
                    return false;
                }
                emit(OP_OR);
            }
            return true;
        }

        private boolean readEach(int depth) {
            if (!readTest(depth)) {
                return false;
            }
            for (int i = 0; i < TAPE_LIMIT && sign == WORD_AND; i++) {
                advance();
                if (!readTest(depth)) {
                    return false;
                }
                emit(OP_AND);
            }
            return true;
        }

        private boolean readNot(int depth) {
            return open(WORD_NOT, depth) && readTest(depth + 1) && emit(OP_NOT);
        }

        private boolean readTest(int depth) {
            if (sign == WORD_NOT) {
                return readNot(depth);
            }
            if (sign == '[') {
                return open('[', depth) && readAny(depth + 1) && pass(']');
            }
            if (!readSum(depth)) {
                return false;
            }
            if (sign != '<' && sign != '>' && sign != '=') {
                return refuse(STRAY);
            }
            int step = sign == '<' ? OP_BELOW : sign == '>' ? OP_ABOVE : OP_SAME;
            advance();
            return readSum(depth) && emit(step);
        }
    }

    /** What RULES and hand tell of each PAIR; the rows of bits have both ENTRIES of a PAIR alike. */
    private static final class Pairs {
        final Entries entries;
        Rules rules = new Rules();
        int byHandCount;
        private final int[] pulls = new int[ENTRY_LIMIT * ENTRY_LIMIT];
        private final int[] grounds = new int[ENTRY_LIMIT * ENTRY_LIMIT];
        private final int[] nevers = new int[ENTRY_LIMIT];
        private final int[] passes = new int[ENTRY_LIMIT];
        private final int[] byHand = new int[ENTRY_LIMIT];
        private final int[] facts = new int[FACTS];

        Pairs(Entries entries) {
            this.entries = entries;
        }

        /** WEIGHT, but 0 of a PAIR that is NEVER: it costs nothing. */
        int pull(int a, int b) {
            return pulls[a * ENTRY_LIMIT + b];
        }

        int reasons(int a, int b) {
            return grounds[a * ENTRY_LIMIT + b];
        }

        boolean isNever(int a, int b) {
            return (nevers[a] >>> b & 1) != 0;
        }

        boolean isByHand(int a, int b) {
            return (byHand[a] >>> b & 1) != 0;
        }

        /** PAIRS of lesser ENTRIES are left as they are: a new ENTRY changes nothing of them. */
        void judgeFrom(int entry) {
            for (int i = entry; i < entries.size; i++) {
                for (int j = 0; j < i; j++) {
                    if (!isByHand(i, j)) {
                        judge(i, j);
                    }
                }
            }
        }

        void tellByHand(int a, int b, int w) {
            if (!isByHand(a, b)) {
                byHandCount++;
            }
            setBit(byHand, a, b, true);
            setBit(passes, a, b, false);
            write(a, b, w == VOID ? 0 : w, 0, w == VOID);
        }

        void forgetByHand(int a, int b) {
            byHandCount--;
            setBit(byHand, a, b, false);
            judge(a, b);
        }

        int passedCount() {
            int both = 0;
            for (int i = 0; i < entries.size; i++) {
                both += Integer.bitCount(passes[i]);
            }
            return both / 2;
        }

        private void judge(int a, int b) {
            entries.compare(a, b, facts);
            rules.judge(facts);
            setBit(passes, a, b, rules.passed);
            write(a, b, rules.never ? 0 : rules.verdict, rules.reasons, rules.never);
        }

        private void write(int a, int b, int pull, int reasons, boolean never) {
            pulls[a * ENTRY_LIMIT + b] = pull;
            pulls[b * ENTRY_LIMIT + a] = pull;
            grounds[a * ENTRY_LIMIT + b] = reasons;
            grounds[b * ENTRY_LIMIT + a] = reasons;
            setBit(nevers, a, b, never);
        }
    }

    private static void setBit(int[] rows, int a, int b, boolean on) {
        if (on) {
            rows[a] |= 1 << b;
            rows[b] |= 1 << a;
        } else {
            rows[a] &= ~(1 << b);
            rows[b] &= ~(1 << a);
        }
    }

    /** LAWS and FIXED PAIRS. */
    private static final class Laws {
        final int[] togetherRows = new int[ENTRY_LIMIT];
        final int[] apartRows = new int[ENTRY_LIMIT];
        int fixedCount;
        private final Entries entries;
        private final Pairs pairs;
        private int most;
        private int oneBook;
        private int span = NONE;

        Laws(Entries entries, Pairs pairs) {
            this.entries = entries;
            this.pairs = pairs;
        }

        int change(int what, int v) {
            int before = what == 0 ? most : what == 1 ? oneBook : span;
            if (what == 0) {
                most = v;
            } else if (what == 1) {
                oneBook = v;
            } else {
                span = v;
            }
            return before;
        }

        int roomOfHeap() {
            return most == 0 ? ENTRY_LIMIT : most;
        }

        boolean isFixed(int a, int b) {
            return ((togetherRows[a] | apartRows[a]) >>> b & 1) != 0;
        }

        void bind(int a, int b, boolean together) {
            setBit(together ? togetherRows : apartRows, a, b, true);
            fixedCount++;
        }

        void unbind(int a, int b) {
            setBit(togetherRows, a, b, false);
            setBit(apartRows, a, b, false);
            fixedCount--;
        }

        /** Whether two ENTRIES may not be together, whoever else is with them. */
        boolean partsThem(int a, int b) {
            return pairs.isNever(a, b)
                || (apartRows[a] >>> b & 1) != 0
                || oneBook == 1 && entries.sameBook(a, b)
                || span != NONE && entries.yearsBetween(a, b) > span;
        }
    }

    /** The HEAPING that is kept, and its MARKS. */
    private static final class Hand {
        final int[] heap = new int[ENTRY_LIMIT];
        int size;
        int marks;
        private final Pairs pairs;
        private final Laws laws;
        private final int[] leasts = new int[ENTRY_LIMIT + 1];
        private final int[] kept = new int[ENTRY_LIMIT * MARK_LIMIT];
        private final int[] keptSizes = new int[MARK_LIMIT];

        Hand(Pairs pairs, Laws laws) {
            this.pairs = pairs;
            this.laws = laws;
        }

        void welcome() {
            heap[size] = size;
            size++;
        }

        /** Whatever number a HEAP had when it changed, it has that of its least ENTRY then. */
        private void renumber() {
            Arrays.fill(leasts, NONE);
            for (int i = 0; i < size; i++) {
                int old = heap[i];
                if (leasts[old] == NONE) {
                    leasts[old] = i;
                }
                heap[i] = leasts[old];
            }
        }

        boolean isAlone(int entry) {
            return maskOfHeap(heap[entry]) == 1 << entry;
        }

        int maskOfHeap(int number) {
            int mask = 0;
            for (int i = 0; i < size; i++) {
                if (heap[i] == number) {
                    mask |= 1 << i;
                }
            }
            return mask;
        }

        void moveTo(int entry, int number) {
            heap[entry] = number;
            renumber();
        }

        /** ENTRY_LIMIT is a number that no HEAP has: the HEAP left behind may have the ENTRY's own. */
        void moveOut(int entry) {
            moveTo(entry, ENTRY_LIMIT);
        }

        void unite(int number, int other) {
            for (int i = 0; i < size; i++) {
                if (heap[i] == other) {
                    heap[i] = number;
                }
            }
            renumber();
        }

        void exchange(int a, int b) {
            int number = heap[a];
            heap[a] = heap[b];
            heap[b] = number;
            renumber();
        }

        void become(int[] row) {
            System.arraycopy(row, 0, heap, 0, size);
        }

        int heapCount() {
            int heaps = 0;
            for (int i = 0; i < size; i++) {
                if (heap[i] == i) {
                    heaps++;
                }
            }
            return heaps;
        }

        long price() {
            long sum = 0;
            for (int i = 1; i < size; i++) {
                for (int j = 0; j < i; j++) {
                    int pull = pairs.pull(i, j);
                    sum += heap[i] == heap[j] ? Math.max(-pull, 0) : Math.max(pull, 0);
                }
            }
            return sum;
        }

        int offender() {
            for (int i = 0; i < size; i++) {
                if (offends(i)) {
                    return i;
                }
            }
            return NONE;
        }

        private boolean offends(int entry) {
            int lesser = 0;
            for (int i = 0; i < entry; i++) {
                boolean together = heap[i] == heap[entry];
                if (together) {
                    lesser++;
                }
                boolean bound = (laws.togetherRows[entry] >>> i & 1) != 0;
                if (together ? laws.partsThem(i, entry) : bound) {
                    return true;
                }
            }
            return lesser >= laws.roomOfHeap();
        }

        boolean keep() {
            if (marks >= MARK_LIMIT) {
                return false;
            }
            System.arraycopy(heap, 0, kept, marks * ENTRY_LIMIT, size);
            keptSizes[marks] = size;
            marks++;
            return true;
        }

        boolean restore() {
            if (marks <= 0) {
                return false;
            }
            marks--;
            int known = keptSizes[marks];
            System.arraycopy(kept, marks * ENTRY_LIMIT, heap, 0, known);
            for (int i = known; i < size; i++) {
                heap[i] = i;
            }
            return true;
        }
    }

    /** The BEST CHANGE of a LAWFUL HAND: only what a CHANGE touches has to be looked at. */
    private static final class Changes {
        int sort;
        int one;
        int two;
        long leastCost;
        private final Hand hand;
        private final Pairs pairs;
        private final Laws laws;
        private long startCost;
        private final int[] parted = new int[ENTRY_LIMIT];
        private final int[] masks = new int[ENTRY_LIMIT];
        private final int[] pullsToHeap = new int[ENTRY_LIMIT * ENTRY_LIMIT];

        Changes(Hand hand, Pairs pairs, Laws laws) {
            this.hand = hand;
            this.pairs = pairs;
            this.laws = laws;
        }

        /** What stays the same while HAND alone changes. */
        void prepare() {
            Arrays.fill(parted, 0);
            for (int i = 1; i < hand.size; i++) {
                for (int j = 0; j < i; j++) {
                    setBit(parted, i, j, laws.partsThem(i, j));
                }
            }
        }

        void seek() {
            measure();
            sort = NONE;
            leastCost = startCost;
            for (int i = 0; i < hand.size; i++) {
                seekGoing(i);
            }
            for (int h = 0; h < hand.size; h++) {
                for (int g = h + 1; g < hand.size; g++) {
                    seekJoining(h, g);
                }
            }
            for (int a = 0; a < hand.size; a++) {
                for (int b = a + 1; b < hand.size; b++) {
                    seekChanging(a, b);
                }
            }
        }

        void make() {
            if (sort == GOING && two == NONE) {
                hand.moveOut(one);
            } else if (sort == GOING) {
                hand.moveTo(one, two);
            } else if (sort == JOINING) {
                hand.unite(one, two);
            } else if (sort == CHANGING) {
                hand.exchange(one, two);
            }
        }

        private void measure() {
            startCost = hand.price();
            Arrays.fill(masks, 0);
            Arrays.fill(pullsToHeap, 0);
            for (int i = 0; i < hand.size; i++) {
                masks[hand.heap[i]] |= 1 << i;
                for (int j = 0; j < hand.size; j++) {
                    pullsToHeap[j * ENTRY_LIMIT + hand.heap[i]] += pairs.pull(j, i);
                }
            }
        }

        private int pullTo(int entry, int number) {
            return pullsToHeap[entry * ENTRY_LIMIT + number];
        }

        private void offer(long cost, int itsSort, int first, int second) {
            if (cost < leastCost) {
                leastCost = cost;
                sort = itsSort;
                one = first;
                two = second;
            }
        }

        private boolean isHeldBack(int entry) {
            return (laws.togetherRows[entry] & masks[hand.heap[entry]]) != 0;
        }

        private void seekGoing(int entry) {
            if (isHeldBack(entry)) {
                return;
            }
            int own = hand.heap[entry];
            long left = startCost + pullTo(entry, own);
            for (int h = 0; h < hand.size; h++) {
                boolean open = h != own && masks[h] != 0 && (parted[entry] & masks[h]) == 0;
                if (open && Integer.bitCount(masks[h]) < laws.roomOfHeap()) {
                    offer(left - pullTo(entry, h), GOING, entry, h);
                }
            }
            if (masks[own] != 1 << entry) {
                offer(left, GOING, entry, NONE);
            }
        }

        private void seekJoining(int h, int g) {
            if (masks[h] == 0 || masks[g] == 0) {
                return;
            }
            if (Integer.bitCount(masks[h]) + Integer.bitCount(masks[g]) > laws.roomOfHeap()) {
                return;
            }
            long cost = startCost;
            for (int i = 0; i < hand.size; i++) {
                if (hand.heap[i] == h) {
                    if ((parted[i] & masks[g]) != 0) {
                        return;
                    }
                    cost -= pullTo(i, g);
                }
            }
            offer(cost, JOINING, h, g);
        }

        private void seekChanging(int a, int b) {
            int h = hand.heap[a];
            int g = hand.heap[b];
            if (h == g || isHeldBack(a) || isHeldBack(b)) {
                return;
            }
            boolean clash = (parted[a] & masks[g] & ~(1 << b)) != 0 || (parted[b] & masks[h] & ~(1 << a)) != 0;
            if (!clash) {
                long lost = (long) pullTo(a, h) + pullTo(b, g);
                long won = (long) pullTo(a, g) + pullTo(b, h) - 2L * pairs.pull(a, b);
                offer(startCost + lost - won, CHANGING, a, b);
            }
        }
    }

    /** RINGS, PACKED anew at each call, and those that were TOLD. */
    private static final class Rings {
        int toldCount;
        long toldBound;
        long packedBound;
        private final Pairs pairs;
        private final int[] toldTaken = new int[ENTRY_LIMIT * ENTRY_LIMIT];
        private final int[] packTaken = new int[ENTRY_LIMIT * ENTRY_LIMIT];
        private final int[] hits = new int[4];

        Rings(Pairs pairs) {
            this.pairs = pairs;
        }

        void wipe() {
            if (toldCount > 0) {
                Arrays.fill(toldTaken, 0);
            }
            toldCount = 0;
            toldBound = 0;
        }

        private boolean isDrawn(int a, int b) {
            return pairs.pull(a, b) > 0;
        }

        private boolean isRepelled(int a, int b) {
            return pairs.isNever(a, b) || pairs.pull(a, b) < 0;
        }

        boolean isRing(int a, int b, int c) {
            boolean ab = isDrawn(a, b);
            boolean ac = isDrawn(a, c);
            boolean bc = isDrawn(b, c);
            return ab && ac && isRepelled(b, c) || ab && bc && isRepelled(a, c) || ac && bc && isRepelled(a, b);
        }

        private int rest(int[] taken, int a, int b) {
            int amount = pairs.isNever(a, b) ? AMOUNT_MOST : Math.abs(pairs.pull(a, b));
            return amount - taken[a * ENTRY_LIMIT + b];
        }

        private int leastRest(int[] taken, int a, int b, int c) {
            return Math.min(rest(taken, a, b), Math.min(rest(taken, a, c), rest(taken, b, c)));
        }

        private void takeFrom(int[] taken, int a, int b, int amount) {
            taken[a * ENTRY_LIMIT + b] += amount;
            taken[b * ENTRY_LIMIT + a] += amount;
        }

        private void takeFromAll(int[] taken, int a, int b, int c, int amount) {
            takeFrom(taken, a, b, amount);
            takeFrom(taken, a, c, amount);
            takeFrom(taken, b, c, amount);
        }

        boolean canTake(int a, int b, int c, int amount) {
            return leastRest(toldTaken, a, b, c) >= amount;
        }

        void tell(int a, int b, int c, int amount) {
            takeFromAll(toldTaken, a, b, c, amount);
            toldCount++;
            toldBound += amount;
        }

        int howMany() {
            int sum = 0;
            int size = pairs.entries.size;
            for (int a = 0; a < size; a++) {
                for (int b = a + 1; b < size; b++) {
                    for (int c = b + 1; c < size; c++) {
                        if (isRing(a, b, c)) {
                            sum++;
                        }
                    }
                }
            }
            return sum;
        }

        /** The k-th RING that takes something stays in the hits. */
        void pack(int k) {
            Arrays.fill(packTaken, 0);
            Arrays.fill(hits, NONE);
            packedBound = 0;
            int takers = 0;
            int size = pairs.entries.size;
            for (int a = 0; a < size; a++) {
                for (int b = a + 1; b < size; b++) {
                    for (int c = b + 1; c < size; c++) {
                        int amount = isRing(a, b, c) ? leastRest(packTaken, a, b, c) : 0;
                        if (amount > 0) {
                            takeFromAll(packTaken, a, b, c, amount);
                            packedBound += amount;
                            if (takers == k) {
                                remember(a, b, c, amount);
                            }
                            takers++;
                        }
                    }
                }
            }
        }

        private void remember(int a, int b, int c, int amount) {
            hits[0] = a;
            hits[1] = b;
            hits[2] = c;
            hits[3] = amount;
        }

        int hit(int what) {
            return hits[what];
        }
    }

    /** Which ENTRIES hang together. */
    private static final class Parts {
        final int[] number = new int[ENTRY_LIMIT];
        private final Pairs pairs;
        private final Laws laws;
        private final int[] links = new int[ENTRY_LIMIT];
        private final int[] members = new int[ENTRY_LIMIT];

        Parts(Pairs pairs, Laws laws) {
            this.pairs = pairs;
            this.laws = laws;
        }

        /** PARTS of the ENTRIES in the mask alone: how many; other ENTRIES have the number NONE. */
        int find(int among) {
            link(among);
            Arrays.fill(number, NONE);
            int found = 0;
            for (int i = 0; i < pairs.entries.size; i++) {
                if ((among >>> i & 1) != 0 && number[i] == NONE) {
                    spread(i);
                    found++;
                }
            }
            return found;
        }

        int membersWith(int entry) {
            return number[entry] == NONE ? 0 : members[number[entry]];
        }

        private void link(int among) {
            int size = pairs.entries.size;
            for (int i = 0; i < size; i++) {
                links[i] = laws.togetherRows[i];
                for (int j = 0; j < size; j++) {
                    if (pairs.pull(i, j) > 0) {
                        links[i] |= 1 << j;
                    }
                }
                links[i] &= among;
            }
        }

        private void spread(int least) {
            int reached = 1 << least;
            number[least] = least;
            for (int round = 0; round < ENTRY_LIMIT; round++) {
                int before = reached;
                for (int i = 0; i < pairs.entries.size; i++) {
                    if ((reached >>> i & 1) != 0) {
                        number[i] = least;
                        reached |= links[i];
                    }
                }
                if (before == reached) {
                    break;
                }
            }
            members[least] = reached;
        }
    }

    /** One PART of at most 10 ENTRIES, which have places 0 to 9 in it. */
    private static final class Part {
        int size;
        int room;
        final int[] entryAt = new int[PART_LIMIT];
        final int[] pulls = new int[PART_LIMIT * PART_LIMIT];
        final int[] parted = new int[PART_LIMIT];
        final int[] bound = new int[PART_LIMIT];
        final int[] handRows = new int[PART_LIMIT];
        private final Pairs pairs;
        private final Laws laws;

        Part(Pairs pairs, Laws laws) {
            this.pairs = pairs;
            this.laws = laws;
        }

        void load(int members) {
            size = 0;
            room = laws.roomOfHeap();
            for (int i = 0; i < ENTRY_LIMIT; i++) {
                if ((members >>> i & 1) != 0 && size < PART_LIMIT) {
                    entryAt[size] = i;
                    size++;
                }
            }
            Arrays.fill(parted, 0);
            Arrays.fill(bound, 0);
            for (int i = 1; i < size; i++) {
                int a = entryAt[i];
                for (int j = 0; j < i; j++) {
                    int b = entryAt[j];
                    pulls[i * PART_LIMIT + j] = pairs.pull(a, b);
                    setBit(parted, i, j, laws.partsThem(a, b));
                    setBit(bound, i, j, (laws.togetherRows[a] >>> b & 1) != 0);
                }
            }
        }

        /** Only for a greater and a lesser place. */
        int pull(int i, int j) {
            return pulls[i * PART_LIMIT + j];
        }

        int placeOf(int entry) {
            for (int i = 0; i < size; i++) {
                if (entryAt[i] == entry) {
                    return i;
                }
            }
            return NONE;
        }

        void settle(int a, int b, boolean together) {
            int i = placeOf(a);
            int j = placeOf(b);
            if (i != NONE && j != NONE) {
                setBit(together ? bound : parted, i, j, true);
            }
        }

        void lookAt(int[] heap) {
            Arrays.fill(handRows, 0);
            for (int i = 1; i < size; i++) {
                for (int j = 0; j < i; j++) {
                    setBit(handRows, i, j, heap[entryAt[i]] == heap[entryAt[j]]);
                }
            }
        }

        long amounts() {
            long sum = 0;
            for (int i = 1; i < size; i++) {
                for (int j = 0; j < i; j++) {
                    sum += Math.abs(pull(i, j));
                }
            }
            return sum;
        }
    }

    /**
     * Goes through the LAWFUL HEAPINGS of a PART, FIRST ones first, and leaves out what can't be wanted. Ends of the PART
     * are measured ahead of the whole: what their ENTRIES cost among each other can never be saved.
     */
    private static final class Search {
        int leastCost;
        int ways;
        int fewest;
        private final Part part;
        private final int[] restCosts = new int[PART_LIMIT + 1];
        private final int[] heapMasks = new int[PART_LIMIT];
        private final int[] heapLeasts = new int[PART_LIMIT];
        private final int[] now = new int[PART_LIMIT];
        private final int[] chosen = new int[PART_LIMIT];
        private final long[] listed = new long[LISTED_MOST];
        private int heaps;
        private int from;
        private int limit;
        private int aim;
        private long inEach;
        private long inSome;

        Search(Part part) {
            this.part = part;
        }

        /** What the BEST costs; false: there is none. */
        boolean measure() {
            aim = MEASURING;
            fewest = BOUNDLESS;
            leastCost = 0;
            restCosts[part.size] = 0;
            for (int start = part.size - 1; start >= 0; start--) {
                leastCost = BOUNDLESS;
                limit = BOUNDLESS;
                from = start;
                place(start, 0, 0, 0);
                if (leastCost == BOUNDLESS) {
                    return false;
                }
                restCosts[start] = leastCost;
            }
            return true;
        }

        /** All BEST ones, when what they cost is measured. */
        void list() {
            aim = LISTING;
            limit = leastCost;
            ways = 0;
            inEach = -1L;
            inSome = 0;
            place(0, 0, 0, 0);
        }

        /** NEAR by m, when what the BEST costs is measured. */
        void approach(int m) {
            aim = NEARING;
            limit = leastCost + m;
            place(0, 0, 0, 0);
        }

        /** The HEAPS are tried by their least ENTRIES, a new one last: so FIRST ones come first. */
        private void place(int i, int cost, int odd, long pairs) {
            if (i >= part.size || i >= PART_LIMIT) {
                record(cost, odd, pairs);
                return;
            }
            int alone = cost + drawn(i);
            int open = heaps;
            for (int h = 0; h < open; h++) {
                enter(i, h, alone, odd, pairs);
            }
            heapMasks[open] = 0;
            heapLeasts[open] = i;
            heaps = open + 1;
            enter(i, open, alone, odd, pairs);
            heaps = open;
        }

        private void enter(int i, int h, int alone, int odd, long pairs) {
            int mask = heapMasks[h];
            int placed = (1 << i) - (1 << from);
            boolean clash = (part.parted[i] & mask) != 0 || (part.bound[i] & placed & ~mask) != 0;
            if (clash || Integer.bitCount(mask) >= part.room) {
                return;
            }
            int cost = alone - pullTo(i, mask);
            int oddThen = aim == NEARING ? odd + Integer.bitCount((mask ^ part.handRows[i]) & placed) : odd;
            if (cost + restCosts[i + 1] <= limit && oddThen < fewest) {
                heapMasks[h] = mask | 1 << i;
                now[i] = heapLeasts[h];
                place(i + 1, cost, oddThen, pairs | (long) mask << i * (i - 1) / 2);
                heapMasks[h] = mask;
            }
        }

        /** What the place costs if it is with none of those before it. */
        private int drawn(int i) {
            int sum = 0;
            for (int j = from; j < i; j++) {
                sum += Math.max(0, part.pull(i, j));
            }
            return sum;
        }

        private int pullTo(int i, int mask) {
            int sum = 0;
            for (int j = from; j < i; j++) {
                if ((mask >>> j & 1) != 0) {
                    sum += part.pull(i, j);
                }
            }
            return sum;
        }

        private void record(int cost, int odd, long pairs) {
            if (aim == MEASURING) {
                leastCost = cost;
                limit = cost - 1;
                return;
            }
            if (aim == NEARING || ways == 0) {
                System.arraycopy(now, 0, chosen, 0, PART_LIMIT);
            }
            if (aim == NEARING) {
                fewest = odd;
                return;
            }
            inEach &= pairs;
            inSome |= pairs;
            if (ways < LISTED_MOST) {
                listed[ways] = pairs;
            }
            ways++;
        }

        int heapOf(int entry) {
            int i = part.placeOf(entry);
            return i == NONE ? NONE : part.entryAt[chosen[i]];
        }

        void copyFirst(int[] row) {
            for (int i = 0; i < part.size; i++) {
                row[part.entryAt[i]] = part.entryAt[chosen[i]];
            }
        }

        private static long pairBit(int lesser, int greater) {
            return 1L << greater * (greater - 1) / 2 + lesser;
        }

        int togetherness(int a, int b) {
            int i = part.placeOf(a);
            int j = part.placeOf(b);
            if (i == NONE || j == NONE) {
                return -2;
            }
            long bit = pairBit(Math.min(i, j), Math.max(i, j));
            return (inEach & bit) != 0 ? 1 : (inSome & bit) != 0 ? 0 : -1;
        }

        int question() {
            long free = inSome & ~inEach;
            int leastLeft = BOUNDLESS;
            int answer = NONE;
            for (int i = 0; i < part.size; i++) {
                for (int j = i + 1; j < part.size; j++) {
                    long bit = pairBit(i, j);
                    if ((free & bit) != 0) {
                        int left = Math.max(freeLeft(bit, bit), freeLeft(bit, 0));
                        if (left < leastLeft) {
                            leastLeft = left;
                            answer = 32 * part.entryAt[i] + part.entryAt[j];
                        }
                    }
                }
            }
            return answer;
        }

        private int freeLeft(long bit, long settled) {
            long each = -1L;
            long some = 0;
            for (int i = 0; i < ways && i < LISTED_MOST; i++) {
                if ((listed[i] & bit) == settled) {
                    each &= listed[i];
                    some |= listed[i];
                }
            }
            return Long.bitCount(some & ~each);
        }
    }
}
