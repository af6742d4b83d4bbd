import java.util.Arrays;

/**
 * A college for statesmen that is run as a dairy: members are fed arguments, term by term.
 * What each call promises stands in the project's document; README.md tells how to use it.
 */
public final class DairyCollege {
    public static final int NONE = -1, BAD = -2, NOT = -3, FULL = -4;

    private static final int TEXTS = 2, LONGEST = 47, STEP = 6, FACTS = 5, MOST_ITEMS = 8;
    private static final int TERMS = 20, LAST = 19, QUESTIONS = 4, SIDES = 10, AYE = 5;
    private static final int SORTS = 3, MOST_FEEDS = 8, ALL_FEEDS = 255, MOST_SEEN = 8;
    private static final int STOUTEST = 9, WARMTH = 2, NEAR = 2, SIXTEEN = 16;
    private static final int SHEETS = 4, FORMS = 3, LARGEST = 60;
    private static final int NULL = 1, INDEX = 2, CAST = 3, STORE = 4, SIZE = 5;

    /** By sort: plain, tender, iron. */
    private static final int[] STOMACHS = {3, 2, 5};
    private static final int[] STRIDES = {1, 2, 0};
    private static final int[] FACTORIALS = {1, 1, 2, 6, 24, 120, 720, 5040};

    private final Scroll members = new Scroll("pti");
    private final Scroll cows = new Scroll("rw");
    private final Rations told = new Rations();
    private final Rations drawn = new Rations();
    private final Sights sights = new Sights();
    private final Leaf[] leaves = new Leaf[SHEETS];
    private int latest = 0;

    // Rows that calls work in. They are made once, since nothing that a run makes is given back.
    private final Pupil pupil = new Pupil();
    private final Pupil trial = new Pupil();
    private final Plan plan = new Plan();
    private final Fraction fraction = new Fraction();
    private final int[] behind = new int[TERMS * QUESTIONS];
    private final int[] guesses = new int[SIDES * TERMS];
    private final int[] alike = new int[SIDES];
    private final int[] weights = new int[1 << MOST_ITEMS];
    private final long[] ways = new long[MOST_ITEMS + 1];

    public DairyCollege() {
        for (int s = 0; s < SHEETS; s++) {
            leaves[s] = new Leaf();
        }
    }

    // ---- members, cows, feeds

    public int type(int text, int b) {
        if (outside(text, TEXTS) || outside(b, 256)) {
            return BAD;
        }
        return scroll(text).append(b);
    }

    public int wipe(int text) {
        if (outside(text, TEXTS)) {
            return BAD;
        }
        return scroll(text).clear();
    }

    public int undo(int text) {
        if (outside(text, TEXTS)) {
            return BAD;
        }
        return scroll(text).dropLast();
    }

    public int fault(int text) {
        if (outside(text, TEXTS)) {
            return BAD;
        }
        return scroll(text).flaw;
    }

    public int member(int member, int what) {
        if (outside(member, members.items) || outside(what, FACTS)) {
            return BAD;
        }
        return members.facts[member * FACTS + what];
    }

    public int cow(int cow, int what) {
        if (outside(cow, cows.items) || outside(what, FACTS)) {
            return BAD;
        }
        return cows.facts[cow * FACTS + what];
    }

    public int feed(int term, int member, int cow) {
        if (outside(term, TERMS) || outside(member, MOST_ITEMS) || outside(cow, MOST_ITEMS)) {
            return BAD;
        }
        return told.add(term, member, cow);
    }

    public int back() {
        return told.dropLast();
    }

    public int read(int s) {
        if (outside(s, SHEETS)) {
            return BAD;
        }
        Leaf leaf = leaves[s];
        if (leaf.isLost()) {
            return finding(NULL);
        }
        int taken = 0;
        for (int i = 0; i + 2 < leaf.size; i += 3) {
            if (feed(leaf.items[i], leaf.items[i + 1], leaf.items[i + 2]) < 0) {
                break;
            }
            taken++;
        }
        return taken;
    }

    // ---- terms

    public int at(int term, int member, int question, int what) {
        if (outside(term, TERMS) || outside(member, members.items)
                || outside(question, QUESTIONS) || outside(what, 4)) {
            return BAD;
        }
        raise(told, member, term, ALL_FEEDS);
        switch (what) {
            case 0: return pupil.held[question];
            case 1: return pupil.least[question];
            case 2: return pupil.most[question];
            default: return bit(pupil.held[question] >= AYE);
        }
    }

    public int able(int term, int member, int what) {
        if (outside(term, TERMS) || outside(member, members.items) || outside(what, 3)) {
            return BAD;
        }
        raise(told, member, term, ALL_FEEDS);
        switch (what) {
            case 0: return pupil.stomach;
            case 1: return pupil.sick;
            default: return bit(pupil.knows(members, member));
        }
    }

    public int house(int term, int question, int what) {
        if (outside(term, TERMS) || outside(question, QUESTIONS) || outside(what, 3)) {
            return BAD;
        }
        int ayes = ayes(term, question);
        switch (what) {
            case 0: return Integer.bitCount(ayes);
            case 1: return bit(haveIt(ayes));
            default: return hinges(ayes);
        }
    }

    public int pusey(int what) {
        if (outside(what, 3)) {
            return BAD;
        }
        int firstTerm = TERMS;
        int who = NONE;
        for (int m = 0; m < members.items; m++) {
            int term = termOfAllSides(m, firstTerm);
            if (term < firstTerm) {
                firstTerm = term;
                who = m;
            }
        }
        if (who == NONE || what == 1) {
            return who;
        }
        if (what == 0) {
            return firstTerm;
        }
        raise(told, who, firstTerm, ALL_FEEDS);
        return pupil.questionOfAllSides();
    }

    public int weaned() {
        return unknowing(told, ALL_FEEDS);
    }

    public int says(int question) {
        if (outside(question, QUESTIONS)) {
            return BAD;
        }
        int ayes = ayes(LAST, question);
        if (!haveIt(ayes)) {
            return NONE;
        }
        for (int m = 0; m < members.items; m++) {
            if ((ayes >> m & 1) == 0) {
                return m;
            }
        }
        return NONE;
    }

    public long power(int member, int question, int what) {
        if (outside(member, members.items) || outside(question, QUESTIONS) || outside(what, 2)) {
            return Long.MIN_VALUE - BAD;
        }
        weigh(question);
        int n = members.items;
        fraction.settle(turningRows(member), (long) n * FACTORIALS[n - 1]);
        return fraction.tell(what);
    }

    // ---- plans

    public int rear(int member, int question, int side, int i) {
        if (outside(member, members.items) || outside(question, QUESTIONS)
                || outside(side, SIDES) || i < NONE || i > 1) {
            return BAD;
        }
        planRear(member, question, side);
        return plan.tell(i);
    }

    public int carry(int term, int question, int what) {
        if (outside(term, TERMS) || outside(question, QUESTIONS) || outside(what, 3)) {
            return BAD;
        }
        int ayes = ayes(LAST, question);
        int best = NONE;
        int who = NONE;
        int which = NONE;
        for (int m = 0; m < members.items; m++) {
            int others = Integer.bitCount(ayes & ~(1 << m));
            for (int c = 0; c < cows.items; c++) {
                int sum = others + bit(saysAyeWith(m, c, term, question));
                if (sum > best) {
                    best = sum;
                    who = m;
                    which = c;
                }
            }
        }
        return what == 0 ? who : what == 1 ? which : best;
    }

    public int spare(int i) {
        if (i < NONE || i > 1) {
            return BAD;
        }
        planSpare();
        return plan.tell(i);
    }

    // ---- seen, cream, years

    public int seen(int term, int member, int question, int much) {
        if (outside(term, TERMS) || outside(member, MOST_ITEMS)
                || outside(question, QUESTIONS) || outside(much, SIDES)) {
            return BAD;
        }
        return sights.add(term, member, question, much);
    }

    public int forget() {
        return sights.clear();
    }

    public int never() {
        int bits = 0;
        for (int f = 0; f < told.size; f++) {
            if (restAgree(NONE, ALL_FEEDS & ~(1 << f))) {
                bits |= 1 << f;
            }
        }
        return bits;
    }

    public int sort(int member) {
        if (outside(member, members.items)) {
            return BAD;
        }
        int bits = 0;
        if (restAgree(member, ALL_FEEDS)) {
            for (int sort = 0; sort < SORTS; sort++) {
                pupil.enter(members, member);
                pupil.become(sort);
                trace(member, ALL_FEEDS);
                bits |= bit(sights.agree(member, behind)) << sort;
            }
        }
        return bits;
    }

    public int first(int member, int question) {
        if (outside(member, members.items) || outside(question, QUESTIONS)) {
            return BAD;
        }
        return restAgree(member, ALL_FEEDS) ? guessFirst(member, question) : 0;
    }

    public int ask(int member, int question) {
        if (outside(member, members.items) || outside(question, QUESTIONS)) {
            return BAD;
        }
        int bits = restAgree(member, ALL_FEEDS) ? guessFirst(member, question) : 0;
        int best = SIDES + 1;
        int bestTerm = 0;
        for (int term = 0; term < TERMS; term++) {
            int most = mostAlike(bits, term);
            if (most < best) {
                best = most;
                bestTerm = term;
            }
        }
        return bestTerm;
    }

    public long cream(int c, int term, int question, int what) {
        if (outside(c, SIXTEEN + 1) || outside(term, TERMS)
                || outside(question, QUESTIONS) || outside(what, 2)) {
            return Long.MIN_VALUE - BAD;
        }
        Arrays.fill(ways, 0);
        ways[0] = 1;
        long all = 1;
        for (int m = 0; m < members.items; m++) {
            int own = told.feedsOf(m, term);
            long aye = ayeWays(m, c, term, question, own);
            long either = power16(Integer.bitCount(own));
            joinWays(m, aye, either - aye);
            all *= either;
        }
        long carried = 0;
        for (int n = 0; n <= members.items; n++) {
            if (2 * n > members.items) {
                carried += ways[n];
            }
        }
        fraction.settle(carried, all);
        return fraction.tell(what);
    }

    public int years(int seed, int n, int what) {
        if (outside(n, MOST_FEEDS + 1) || outside(what, 2)) {
            return BAD;
        }
        drawFeeds(seed, n);
        return what == 0 ? Integer.bitCount(unknowing(drawn, ALL_FEEDS)) : sickness(drawn);
    }

    // ---- sheets

    public int sheet(int s, int form, int n) {
        if (outside(s, SHEETS) || outside(form, FORMS) || n > LARGEST) {
            return BAD;
        }
        if (n < 0) {
            return finding(SIZE);
        }
        leaves[s].begin(form, n);
        return n;
    }

    public int lose(int s) {
        if (outside(s, SHEETS)) {
            return BAD;
        }
        Leaf leaf = leaves[s];
        if (leaf.isLost()) {
            return finding(NULL);
        }
        int had = leaf.size;
        leaf.vanish();
        return had;
    }

    public int put(int s, int form, int i, int v) {
        int refusal = itemRefusal(s, form, i);
        if (refusal != 0) {
            return refusal;
        }
        leaves[s].store(i, v);
        return 1;
    }

    public int get(int s, int form, int i) {
        if (itemRefusal(s, form, i) != 0) {
            return Integer.MIN_VALUE;
        }
        return leaves[s].items[i];
    }

    public int copy(int s, int i, int t, int j, int n) {
        if (outside(s, SHEETS) || outside(t, SHEETS)) {
            return BAD;
        }
        Leaf from = leaves[s];
        Leaf to = leaves[t];
        if (from.isLost() || to.isLost()) {
            return finding(NULL);
        }
        if (from.form != to.form) {
            return finding(STORE);
        }
        if (!from.hasRun(i, n) || !to.hasRun(j, n)) {
            return finding(INDEX);
        }
        System.arraycopy(from.items, i, to.items, j, n);
        return 1;
    }

    public int write(int member, int question, int s) {
        if (outside(member, members.items) || outside(question, QUESTIONS) || outside(s, SHEETS)) {
            return BAD;
        }
        Leaf leaf = leaves[s];
        if (leaf.isLost()) {
            return finding(NULL);
        }
        pupil.enter(members, member);
        trace(member, ALL_FEEDS);
        int n = Math.min(leaf.size, TERMS);
        for (int term = 0; term < n; term++) {
            leaf.store(term, behind[term * QUESTIONS + question]);
        }
        return n;
    }

    public int count(int what) {
        switch (what) {
            case 0: return members.items;
            case 1: return cows.items;
            case 2: return members.length;
            case 3: return cows.length;
            case 4: return told.size;
            case 5: return Integer.bitCount(unknowing(told, ALL_FEEDS));
            case 6: return sickness(told);
            case 7: return sights.size;
            case 8: return latest;
            default: return BAD;
        }
    }

    public long digest() {
        long h = 17;
        for (int what = 0; what <= 7; what++) {
            h = 31 * h + count(what);
        }
        for (int text = 0; text < TEXTS; text++) {
            h = 31 * h + fault(text);
        }
        for (int c = 0; c < cows.items; c++) {
            for (int what = 0; what < FACTS; what++) {
                h = 31 * h + cow(c, what);
            }
        }
        for (int m = 0; m < members.items; m++) {
            h = mixMember(h, m);
        }
        for (int q = 0; q < QUESTIONS; q++) {
            h = mixQuestion(h, q);
        }
        for (int what = 0; what <= 2; what++) {
            h = 31 * h + pusey(what);
        }
        h = 31 * h + weaned();
        h = 31 * h + spare(NONE);
        h = 31 * h + spare(0);
        h = 31 * h + never();
        h = 31 * h + years(7, 6, 0);
        return 31 * h + years(7, 6, 1);
    }

    // ---- what the calls above are made of

    private static boolean outside(int number, int end) {
        return number < 0 || number >= end;
    }

    private static int bit(boolean is) {
        return is ? 1 : 0;
    }

    private Scroll scroll(int text) {
        return text == 0 ? members : cows;
    }

    private int finding(int number) {
        latest = number;
        return -10 - number;
    }

    /** Gives a member its feeds of a list from a place of the list's order up to a term: the place to go on from. */
    private int bringUp(Rations feeds, int member, int from, int term, int kept) {
        for (int place = from; place < feeds.size; place++) {
            int f = feeds.order[place];
            if (feeds.terms[f] > term) {
                return place;
            }
            if (feeds.members[f] == member && (kept >> f & 1) != 0) {
                pupil.drink(cows, feeds.cows[f]);
            }
        }
        return feeds.size;
    }

    private void raise(Rations feeds, int member, int term, int kept) {
        pupil.enter(members, member);
        bringUp(feeds, member, 0, term, kept);
    }

    /** Brings the pupil, who has entered, through all terms; keeps what was held behind each. */
    private void trace(int member, int kept) {
        int place = 0;
        for (int term = 0; term < TERMS; term++) {
            place = bringUp(told, member, place, term, kept);
            for (int q = 0; q < QUESTIONS; q++) {
                behind[term * QUESTIONS + q] = pupil.held[q];
            }
        }
    }

    private int ayes(int term, int question) {
        int bits = 0;
        for (int m = 0; m < members.items; m++) {
            raise(told, m, term, ALL_FEEDS);
            bits |= bit(pupil.held[question] >= AYE) << m;
        }
        return bits;
    }

    private boolean haveIt(int ayes) {
        return 2 * Integer.bitCount(ayes) > members.items;
    }

    private int hinges(int ayes) {
        int bits = 0;
        for (int m = 0; m < members.items; m++) {
            if (haveIt(ayes) != haveIt(ayes ^ 1 << m)) {
                bits |= 1 << m;
            }
        }
        return bits;
    }

    private int unknowing(Rations feeds, int kept) {
        int bits = 0;
        for (int m = 0; m < members.items; m++) {
            raise(feeds, m, LAST, kept);
            bits |= bit(!pupil.knows(members, m)) << m;
        }
        return bits;
    }

    private int sickness(Rations feeds) {
        int sum = 0;
        for (int m = 0; m < members.items; m++) {
            raise(feeds, m, LAST, ALL_FEEDS);
            sum += pupil.sick;
        }
        return sum;
    }

    /** The first term before the end behind which a member can speak all sides of a question; else the end. */
    private int termOfAllSides(int member, int end) {
        pupil.enter(members, member);
        int place = 0;
        for (int term = 0; term < end; term++) {
            place = bringUp(told, member, place, term, ALL_FEEDS);
            if (pupil.questionOfAllSides() != NONE) {
                return term;
            }
        }
        return end;
    }

    /** What each set of members weighs, by its bits. */
    private void weigh(int question) {
        weights[0] = 0;
        for (int m = 0; m < members.items; m++) {
            raise(told, m, LAST, ALL_FEEDS);
            int weight = pupil.most[question] - pupil.least[question] + 1;
            int sets = 1 << m;
            for (int set = 0; set < sets; set++) {
                weights[set + sets] = weights[set] + weight;
            }
        }
    }

    /** In how many rows of all members one is the first with whom those up to it weigh more than half. */
    private long turningRows(int member) {
        int n = members.items;
        int sets = 1 << n;
        int all = weights[sets - 1];
        int own = 1 << member;
        long rows = 0;
        for (int ahead = 0; ahead < sets; ahead++) {
            if ((ahead & own) == 0 && 2 * weights[ahead] <= all && 2 * weights[ahead | own] > all) {
                int size = Integer.bitCount(ahead);
                rows += (long) FACTORIALS[size] * FACTORIALS[n - 1 - size];
            }
        }
        return rows;
    }

    private void planRear(int member, int question, int side) {
        raise(told, member, LAST, ALL_FEEDS);
        if (pupil.speaks(question, side)) {
            plan.become(0, NONE, NONE);
            return;
        }
        for (int a = 0; a < cows.items; a++) {
            if (speaksBy(a, NONE, question, side)) {
                plan.become(1, a, NONE);
                return;
            }
        }
        for (int a = 0; a < cows.items; a++) {
            for (int b = 0; b < cows.items; b++) {
                if (speaksBy(a, b, question, side)) {
                    plan.become(2, a, b);
                    return;
                }
            }
        }
        plan.become(NONE, NONE, NONE);
    }

    /** Whether the pupil, as it is, could speak a side when fed of one cow more, or of two; it stays as it is. */
    private boolean speaksBy(int a, int b, int question, int side) {
        trial.resemble(pupil);
        trial.drink(cows, a);
        if (b != NONE) {
            trial.drink(cows, b);
        }
        return trial.speaks(question, side);
    }

    private boolean saysAyeWith(int member, int cow, int term, int question) {
        pupil.enter(members, member);
        int place = bringUp(told, member, 0, term, ALL_FEEDS);
        pupil.drink(cows, cow);
        bringUp(told, member, place, LAST, ALL_FEEDS);
        return pupil.held[question] >= AYE;
    }

    private void planSpare() {
        if (unknowing(told, ALL_FEEDS) == 0) {
            plan.become(0, NONE, NONE);
            return;
        }
        for (int a = 0; a < told.size; a++) {
            if (unknowing(told, ALL_FEEDS & ~(1 << a)) == 0) {
                plan.become(1, a, NONE);
                return;
            }
        }
        for (int a = 0; a < told.size; a++) {
            for (int b = a + 1; b < told.size; b++) {
                if (unknowing(told, ALL_FEEDS & ~(1 << a | 1 << b)) == 0) {
                    plan.become(2, a, b);
                    return;
                }
            }
        }
        plan.become(NONE, NONE, NONE);
    }

    /** Whether all that was seen comes out so, but for what was seen of one member (NONE: of all). */
    private boolean restAgree(int but, int kept) {
        for (int m = 0; m < MOST_ITEMS; m++) {
            if (m == but || !sights.tellOf(m)) {
                continue;
            }
            if (m >= members.items) {
                return false;
            }
            pupil.enter(members, m);
            trace(m, kept);
            if (!sights.agree(m, behind)) {
                return false;
            }
        }
        return true;
    }

    /** What a member may have held at first by what was seen of it; keeps what it then holds behind each term. */
    private int guessFirst(int member, int question) {
        int bits = 0;
        for (int much = 0; much < SIDES; much++) {
            pupil.enter(members, member);
            pupil.hold(question, much);
            trace(member, ALL_FEEDS);
            bits |= bit(sights.agree(member, behind)) << much;
            for (int term = 0; term < TERMS; term++) {
                guesses[much * TERMS + term] = behind[term * QUESTIONS + question];
            }
        }
        return bits;
    }

    private int mostAlike(int bits, int term) {
        Arrays.fill(alike, 0);
        int most = 0;
        for (int much = 0; much < SIDES; much++) {
            if ((bits >> much & 1) != 0) {
                int held = guesses[much * TERMS + term];
                alike[held]++;
                most = Math.max(most, alike[held]);
            }
        }
        return most;
    }

    private static long power16(int n) {
        return 1L << 4 * n;
    }

    /** How much of 16 to the number of its own feeds falls to rows of them after which a member says aye. */
    private long ayeWays(int member, int c, int term, int question, int own) {
        long sum = 0;
        for (int kept = 0; kept <= own; kept++) {
            if ((kept & ~own) != 0) {
                continue;
            }
            raise(told, member, term, kept);
            if (pupil.held[question] >= AYE) {
                sum += chance(c, kept, own);
            }
        }
        return sum;
    }

    private static long chance(int c, int kept, int own) {
        long product = 1;
        for (int f = 0; f < MOST_FEEDS; f++) {
            if ((own >> f & 1) != 0) {
                product *= (kept >> f & 1) != 0 ? c : SIXTEEN - c;
            }
        }
        return product;
    }

    /** One member more, behind n others: the ways in which so many say aye. */
    private void joinWays(int n, long aye, long no) {
        for (int sum = n + 1; sum > 0; sum--) {
            ways[sum] = ways[sum] * no + ways[sum - 1] * aye;
        }
        ways[0] *= no;
    }

    private void drawFeeds(int seed, int n) {
        drawn.size = 0;
        if (members.items == 0 || cows.items == 0) {
            return;
        }
        int next = seed;
        for (int i = 0; i < n; i++) {
            next = turn(next);
            int term = lot(next, TERMS);
            next = turn(next);
            int member = lot(next, members.items);
            next = turn(next);
            drawn.add(term, member, lot(next, cows.items));
        }
    }

    private static int turn(int seed) {
        return 1103515245 * seed + 12345;
    }

    private static int lot(int seed, int m) {
        return m > 0 ? (seed >>> 16) % m : 0;
    }

    /** Why an item of a sheet cannot be come at as of a form; 0 if it can. */
    private int itemRefusal(int s, int form, int i) {
        if (outside(s, SHEETS) || outside(form, FORMS)) {
            return BAD;
        }
        Leaf leaf = leaves[s];
        if (leaf.isLost()) {
            return finding(NULL);
        }
        if (leaf.form != form) {
            return finding(CAST);
        }
        return outside(i, leaf.size) ? finding(INDEX) : 0;
    }

    private long mixMember(long start, int m) {
        long h = start;
        for (int what = 0; what < FACTS; what++) {
            h = 31 * h + member(m, what);
        }
        for (int what = 0; what < 9; what++) {
            int term = what < 3 ? 0 : what < 6 ? 6 : LAST;
            h = 31 * h + able(term, m, what % 3);
        }
        for (int q = 0; q < QUESTIONS; q++) {
            for (int what = 0; what < 4; what++) {
                h = 31 * h + at(6, m, q, what);
            }
            for (int what = 0; what < 4; what++) {
                h = 31 * h + at(LAST, m, q, what);
            }
            h = 31 * h + power(m, q, 0);
            h = 31 * h + power(m, q, 1);
            h = 31 * h + rear(m, q, 9, NONE);
            h = 31 * h + rear(m, q, 9, 0);
            h = 31 * h + first(m, q);
            h = 31 * h + ask(m, q);
        }
        return 31 * h + sort(m);
    }

    private long mixQuestion(long start, int q) {
        long h = start;
        for (int what = 0; what < 3; what++) {
            h = 31 * h + house(6, q, what);
        }
        for (int what = 0; what < 3; what++) {
            h = 31 * h + house(LAST, q, what);
        }
        h = 31 * h + says(q);
        for (int what = 0; what < 3; what++) {
            h = 31 * h + carry(8, q, what);
        }
        h = 31 * h + cream(5, 14, q, 0);
        return 31 * h + cream(5, 14, q, 1);
    }

    /** A text, byte by byte, of things with five facts each: the number of a letter, and four figures. */
    private static final class Scroll {
        final String letters;
        final int[] bytes = new int[LONGEST];
        final int[] facts = new int[MOST_ITEMS * FACTS];
        int length = 0;
        int flaw = NONE;
        int items = 0;

        Scroll(String letters) {
            this.letters = letters;
        }

        int append(int b) {
            if (length >= LONGEST) {
                return FULL;
            }
            bytes[length] = b;
            length++;
            look();
            return length;
        }

        int clear() {
            int had = length;
            length = 0;
            look();
            return had;
        }

        int dropLast() {
            if (length == 0) {
                return NOT;
            }
            length--;
            look();
            return length;
        }

        private void look() {
            flaw = findFlaw();
            items = flaw == NONE ? (length + 1) / STEP : 0;
            for (int i = 0; i < items; i++) {
                facts[i * FACTS] = letters.indexOf((char) bytes[i * STEP]);
                for (int figure = 1; figure < FACTS; figure++) {
                    facts[i * FACTS + figure] = bytes[i * STEP + figure] - '0';
                }
            }
        }

        /** A ninth thing needs no look: the longest text ends with the eighth. */
        private int findFlaw() {
            for (int i = 0; i < length; i++) {
                if (!fits(i % STEP, bytes[i])) {
                    return i;
                }
            }
            return length == 0 || length % STEP == STEP - 1 ? NONE : length;
        }

        private boolean fits(int place, int b) {
            if (place == 0) {
                return letters.indexOf((char) b) >= 0;
            }
            return place < FACTS ? b >= '0' && b <= '9' : b == ';';
        }
    }

    /** Feeds by their numbers, and the order in which they are done. */
    private static final class Rations {
        final int[] terms = new int[MOST_FEEDS];
        final int[] members = new int[MOST_FEEDS];
        final int[] cows = new int[MOST_FEEDS];
        final int[] order = new int[MOST_FEEDS];
        int size = 0;

        int add(int term, int member, int cow) {
            if (size >= MOST_FEEDS) {
                return FULL;
            }
            terms[size] = term;
            members[size] = member;
            cows[size] = cow;
            int place = size;
            for (; place > 0 && terms[order[place - 1]] > term; place--) {
                order[place] = order[place - 1];
            }
            order[place] = size;
            size++;
            return size;
        }

        int dropLast() {
            if (size == 0) {
                return NOT;
            }
            int to = 0;
            for (int from = 0; from < size; from++) {
                if (order[from] != size - 1) {
                    order[to] = order[from];
                    to++;
                }
            }
            size--;
            return size;
        }

        /** The feeds of a member up to a term, as bits. */
        int feedsOf(int member, int term) {
            int bits = 0;
            for (int f = 0; f < size; f++) {
                if (members[f] == member && terms[f] <= term) {
                    bits |= 1 << f;
                }
            }
            return bits;
        }
    }

    /** What was seen: who held how much of what, and when. */
    private static final class Sights {
        final int[] terms = new int[MOST_SEEN];
        final int[] members = new int[MOST_SEEN];
        final int[] questions = new int[MOST_SEEN];
        final int[] muches = new int[MOST_SEEN];
        int size = 0;

        int add(int term, int member, int question, int much) {
            if (size >= MOST_SEEN) {
                return FULL;
            }
            terms[size] = term;
            members[size] = member;
            questions[size] = question;
            muches[size] = much;
            size++;
            return size;
        }

        int clear() {
            int had = size;
            size = 0;
            return had;
        }

        boolean tellOf(int member) {
            for (int i = 0; i < size; i++) {
                if (members[i] == member) {
                    return true;
                }
            }
            return false;
        }

        /** Whether what was seen of a member is what it held behind the terms. */
        boolean agree(int member, int[] behind) {
            for (int i = 0; i < size; i++) {
                if (members[i] == member && behind[terms[i] * QUESTIONS + questions[i]] != muches[i]) {
                    return false;
                }
            }
            return true;
        }
    }

    /** A member while it is brought up. */
    private static final class Pupil {
        final int[] held = new int[QUESTIONS];
        final int[] least = new int[QUESTIONS];
        final int[] most = new int[QUESTIONS];
        int stomach = 0;
        int stride = 0;
        int sick = 0;

        void enter(Scroll members, int member) {
            become(members.facts[member * FACTS]);
            sick = 0;
            for (int q = 0; q < QUESTIONS; q++) {
                hold(q, members.facts[member * FACTS + 1 + q]);
            }
        }

        void become(int sort) {
            stomach = STOMACHS[sort];
            stride = STRIDES[sort];
        }

        void hold(int question, int much) {
            held[question] = much;
            least[question] = much;
            most[question] = much;
        }

        void resemble(Pupil other) {
            for (int q = 0; q < QUESTIONS; q++) {
                held[q] = other.held[q];
                least[q] = other.least[q];
                most[q] = other.most[q];
            }
            stomach = other.stomach;
            stride = other.stride;
            sick = other.sick;
        }

        /** Calls nothing, since it stands below the longest chain of calls. */
        void drink(Scroll cows, int cow) {
            if (cow < 0 || cow >= cows.items) {
                return;
            }
            int milk = cow * FACTS;
            int reach = stomach + WARMTH * cows.facts[milk];
            int before = sick;
            for (int q = 0; q < QUESTIONS; q++) {
                int argument = cows.facts[milk + 1 + q];
                int way = argument - held[q];
                if (way > reach || -way > reach) {
                    sick++;
                    continue;
                }
                least[q] = argument < least[q] ? argument : least[q];
                most[q] = argument > most[q] ? argument : most[q];
                held[q] += way > stride ? stride : way < -stride ? -stride : way;
            }
            if (sick == before && stomach < STOUTEST) {
                stomach++;
            }
        }

        boolean speaks(int question, int side) {
            return least[question] <= side && side <= most[question];
        }

        /** The least question of which all sides can be spoken; NONE. */
        int questionOfAllSides() {
            for (int q = 0; q < QUESTIONS; q++) {
                if (least[q] == 0 && most[q] == SIDES - 1) {
                    return q;
                }
            }
            return NONE;
        }

        boolean knows(Scroll members, int member) {
            for (int q = 0; q < QUESTIONS; q++) {
                if (Math.abs(held[q] - members.facts[member * FACTS + 1 + q]) > NEAR) {
                    return false;
                }
            }
            return true;
        }
    }

    /** How many things to do (NONE: it cannot be done), and which. */
    private static final class Plan {
        int size = NONE;
        int one = NONE;
        int two = NONE;

        void become(int size, int one, int two) {
            this.size = size;
            this.one = one;
            this.two = two;
        }

        int tell(int i) {
            return i == NONE ? size : i == 0 ? one : two;
        }
    }

    /** A fraction in lowest terms. */
    private static final class Fraction {
        long above = 0;
        long below = 1;

        void settle(long above, long below) {
            long a = below;
            long b = above;
            // Euclid on longs ends within 92 rounds.
            for (int round = 0; round < 100 && b != 0; round++) {
                long rest = a % b;
                a = b;
                b = rest;
            }
            if (a != 0) {
                this.above = above / a;
                this.below = below / a;
            }
        }

        long tell(int what) {
            return what == 0 ? above : below;
        }
    }

    /** A sheet. Its row is made once; what is beyond its size is not there. */
    private static final class Leaf {
        final int[] items = new int[LARGEST];
        int form = NONE;
        int size = 0;

        boolean isLost() {
            return form == NONE;
        }

        void vanish() {
            form = NONE;
            size = 0;
        }

        void begin(int form, int size) {
            this.form = form;
            this.size = size;
            Arrays.fill(items, 0);
        }

        void store(int i, int v) {
            items[i] = form == 0 ? (byte) v : form == 1 ? (short) v : v;
        }

        /** Whether there are n items from one on; said by differences, since a sum could wrap. */
        boolean hasRun(int from, int n) {
            return from >= 0 && n >= 0 && from <= size && n <= size - from;
        }
    }
}
