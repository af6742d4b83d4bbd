import java.util.Random;

/** Runs of calls by chance (of fixed seeds), each answer against the plain model's. */
public final class OracleTest {
    private static final int RUNS = 1200, CALLS = 150, DIGESTS = 100;
    private static final int[] ODD = {-1, -2, 8, 10, 20, 61, 256, Integer.MAX_VALUE, Integer.MIN_VALUE};
    private static final String[] NAMES = {
        "type", "wipe", "undo", "fault", "member", "cow", "feed", "back", "read", "at", "able", "house", "pusey",
        "weaned", "says", "power", "rear", "carry", "spare", "seen", "forget", "never", "sort", "first", "ask",
        "cream", "years", "sheet", "lose", "put", "get", "copy", "write", "count"};
    /** How often each is drawn: what wipes much is drawn seldom, what is slow in the model too. */
    private static final int[] SHARES = {
        1, 1, 1, 2, 3, 3, 14, 2, 3, 12, 6, 8, 5,
        2, 4, 3, 10, 6, 6, 6, 1, 5, 5, 6, 8,
        2, 5, 5, 2, 14, 5, 6, 5, 6};

    /** A member, cows, feeds of it (term and cow): chance hardly ever finds where not term 0 is the one to ask of. */
    private static final String[] ASKS = {
        "t1377|r1376;r3895;r2156|00 31 02", "t1722|r9286;r0502;w8523|01 02 30", "p1456|w9425;w5285|01 00 31 00",
        "p4053|w1799;w4131|01 00 00 21", "p4936|r4389;w5922|21 01 00 00", "p6797|w3329;w9678|01 21 00 00",
        "t7839|w3641;w4139|01 00 11 00", "p3457|r1592;r6038;r5958|02 00 32 00", "t2159|w0165;r0298;w4748|00 02 11 02"};

    private final Random random;
    private final Check check;
    private final DairyCollege college = new DairyCollege();
    private final Oracle oracle = new Oracle();
    private boolean right = true;
    /** In some runs few are fed much, early, and of much alike milk: else hardly one is weaned. */
    private final int fewest;
    private final int lastTerm;
    private final int spread;

    private OracleTest(long seed, Check check) {
        this.random = new Random(seed);
        this.check = check;
        this.fewest = random.nextInt(3) == 0 ? 8 : 1 + random.nextInt(2);
        this.lastTerm = random.nextInt(3) == 0 ? 2 : 20;
        this.spread = random.nextInt(2) == 0 ? 10 : 4;
    }

    private int upTo(int end) {
        return random.nextInt(60) == 0 ? ODD[random.nextInt(ODD.length)] : random.nextInt(end);
    }

    private int choice() {
        return random.nextInt(60) == 0 ? ODD[random.nextInt(ODD.length)] : random.nextInt(3) - 1;
    }

    private void due(String call, long got, long want) {
        right &= check.due(call, got, want);
    }

    private void typeAll(int text, String letters) {
        int n = random.nextInt(4) == 0 ? 8 : random.nextInt(40) == 0 ? 0 : 1 + random.nextInt(7);
        int low = text == 1 && spread < 10 ? random.nextInt(10 - spread) : 0;
        StringBuilder s = new StringBuilder();
        for (int i = 0; i < n; i++) {
            if (i > 0) s.append(';');
            s.append(letters.charAt(random.nextInt(letters.length())));
            for (int q = 0; q < 4; q++) s.append((char) ('0' + (low == 0 || random.nextInt(4) == 0 ? random.nextInt(10) : low + random.nextInt(spread))));
        }
        if (random.nextInt(25) == 0 && s.length() > 0) s.setCharAt(random.nextInt(s.length()), "pw0;:/".charAt(random.nextInt(6)));
        for (int i = 0; i < s.length(); i++) due("type", college.type(text, s.charAt(i)), oracle.type(text, s.charAt(i)));
        due("fault", college.fault(text), oracle.fault(text));
    }

    private int member() {
        return upTo(Math.max(1, college.count(0)));
    }

    private int draw() {
        int all = 0;
        for (int share : SHARES) all += share;
        int left = random.nextInt(all);
        for (int i = 0; i < SHARES.length; i++) {
            left -= SHARES[i];
            if (left < 0) return i;
        }
        return 0;
    }

    /** Mostly what would come out so, that answers are not all 0. */
    private void see() {
        int term = upTo(20);
        int member = member();
        int question = upTo(4);
        int much = college.at(term, member, question, 0);
        if (random.nextInt(20) == 0 || much < 0) much = upTo(10);
        due("seen", college.seen(term, member, question, much), oracle.seen(term, member, question, much));
    }

    private void mend(int text, String letters) {
        if (college.count(text) == 0 && random.nextInt(3) == 0) {
            due("wipe", college.wipe(text), oracle.wipe(text));
            typeAll(text, letters);
        }
    }

    private void call() {
        mend(0, "pti");
        mend(1, "wr");
        int n = draw();
        int a = 0;
        int b = 0;
        int c = 0;
        int d = 0;
        switch (NAMES[n]) {
            case "type": a = upTo(2); b = random.nextBoolean() ? "ptiwr;0359".charAt(random.nextInt(10)) : upTo(256); due("type", college.type(a, b), oracle.type(a, b)); break;
            case "wipe": a = upTo(20) - 10; due("wipe", college.wipe(a), oracle.wipe(a)); break;
            case "undo": a = upTo(2); due("undo", college.undo(a), oracle.undo(a)); break;
            case "fault": a = upTo(2); due("fault", college.fault(a), oracle.fault(a)); break;
            case "member": a = member(); b = upTo(5); due("member", college.member(a, b), oracle.member(a, b)); break;
            case "cow": a = upTo(8); b = upTo(5); due("cow", college.cow(a, b), oracle.cow(a, b)); break;
            case "feed": a = upTo(lastTerm); b = random.nextInt(9) == 0 ? upTo(8) : upTo(fewest); c = random.nextInt(9) == 0 ? upTo(8) : upTo(Math.max(1, college.count(1))); due("feed", college.feed(a, b, c), oracle.feed(a, b, c)); break;
            case "back": due("back", college.back(), oracle.back()); break;
            case "read": a = upTo(4); due("read", college.read(a), oracle.read(a)); break;
            case "at": a = upTo(20); b = member(); c = upTo(4); d = upTo(4); due("at", college.at(a, b, c, d), oracle.at(a, b, c, d)); break;
            case "able": a = upTo(20); b = member(); c = upTo(3); due("able", college.able(a, b, c), oracle.able(a, b, c)); break;
            case "house": a = upTo(20); b = upTo(4); c = upTo(3); due("house", college.house(a, b, c), oracle.house(a, b, c)); break;
            case "pusey": a = upTo(3); due("pusey", college.pusey(a), oracle.pusey(a)); break;
            case "weaned": due("weaned", college.weaned(), oracle.weaned()); break;
            case "says": a = upTo(4); due("says", college.says(a), oracle.says(a)); break;
            case "power": a = member(); b = upTo(4); c = upTo(2); if (college.count(0) < 7 || random.nextInt(4) == 0) due("power", college.power(a, b, c), oracle.power(a, b, c)); break;
            case "rear": a = member(); b = upTo(4); c = upTo(10); d = choice(); due("rear", college.rear(a, b, c, d), oracle.rear(a, b, c, d)); break;
            default: callMore(NAMES[n]);
        }
    }

    private void callMore(String name) {
        int a = 0;
        int b = 0;
        int c = 0;
        int d = 0;
        switch (name) {
            case "carry": a = upTo(20); b = upTo(4); c = upTo(3); due("carry", college.carry(a, b, c), oracle.carry(a, b, c)); break;
            case "spare": a = choice(); due("spare", college.spare(a), oracle.spare(a)); break;
            case "seen": see(); break;
            case "forget": due("forget", college.forget(), oracle.forget()); break;
            case "never": due("never", college.never(), oracle.never()); break;
            case "sort": a = member(); due("sort", college.sort(a), oracle.sort(a)); break;
            case "first": a = member(); b = upTo(4); due("first", college.first(a, b), oracle.first(a, b)); break;
            case "ask": a = member(); b = upTo(4); due("ask", college.ask(a, b), oracle.ask(a, b)); break;
            case "cream": a = upTo(17); b = upTo(20); c = upTo(4); d = upTo(2); due("cream", college.cream(a, b, c, d), oracle.cream(a, b, c, d)); break;
            case "years": a = random.nextInt(); b = upTo(9); c = upTo(2); due("years", college.years(a, b, c), oracle.years(a, b, c)); break;
            case "sheet": a = upTo(4); b = upTo(3); c = random.nextInt(9) == 0 ? upTo(70) - 5 : random.nextBoolean() ? upTo(61) : 12 + upTo(20); due("sheet", college.sheet(a, b, c), oracle.sheet(a, b, c)); break;
            case "lose": a = upTo(4); due("lose", college.lose(a), oracle.lose(a)); break;
            case "put": put(); break;
            case "get": a = upTo(4); b = form(a); c = upTo(12); due("get", college.get(a, b, c), oracle.get(a, b, c)); break;
            case "copy": a = upTo(4); b = upTo(4); c = upTo(30); d = upTo(30); int n = upTo(30); due("copy", college.copy(a, c, b, d, n), oracle.copy(a, c, b, d, n)); break;
            case "write": a = member(); b = upTo(4); c = upTo(4); due("write", college.write(a, b, c), oracle.write(a, b, c)); break;
            default: a = upTo(9); due("count", college.count(a), oracle.count(a));
        }
    }

    private int form(int s) {
        return s >= 0 && s < 4 && random.nextInt(10) != 0 ? oracle.forms[s] : upTo(3);
    }

    private void put() {
        int s = upTo(4);
        int form = form(s);
        int i = upTo(12);
        int v = random.nextInt(10) == 0 ? random.nextInt() : random.nextInt(4);
        due("put", college.put(s, form, i, v), oracle.put(s, form, i, v));
    }

    private void compareSheets() {
        for (int s = 0; s < 4; s++) {
            int n = oracle.sheets[s] == null ? 0 : oracle.sheets[s].length;
            for (int i = 0; i < n; i++) due("get", college.get(s, oracle.forms[s], i), oracle.sheets[s][i]);
        }
        for (int what = 0; what <= 8; what++) due("count", college.count(what), oracle.count(what));
    }

    private boolean run(boolean withDigest) {
        typeAll(0, "pti");
        typeAll(1, "wr");
        for (int s = 0; s < 4; s++) {
            int form = random.nextInt(2);
            int size = 6 + random.nextInt(20);
            if (random.nextInt(5) != 0) due("sheet", college.sheet(s, form, size), oracle.sheet(s, form, size));
        }
        int n = withDigest ? 12 + random.nextInt(100) : CALLS;
        for (int i = 0; i < n && right; i++) call();
        if (withDigest) {
            due("digest", college.digest(), oracle.digest());
        }
        compareSheets();
        return right;
    }

    private void runAsk(String[] told) {
        for (char b : told[0].toCharArray()) due("type", college.type(0, b), oracle.type(0, b));
        for (char b : told[1].toCharArray()) due("type", college.type(1, b), oracle.type(1, b));
        for (String f : told[2].split(" ")) {
            int term = f.charAt(0) - '0';
            int cow = f.charAt(1) - '0';
            due("feed", college.feed(term, 0, cow), oracle.feed(term, 0, cow));
        }
        int sum = 0;
        for (int q = 0; q < 4; q++) {
            due("ask", college.ask(0, q), oracle.ask(0, q));
            sum += college.ask(0, q);
        }
        check.holds("another term than 0 is to be asked of", sum > 0);
    }

    public static void main(String[] args) {
        Check check = new Check("OracleTest");
        for (int seed = 0; seed < RUNS; seed++) {
            check.promise("run by seed " + seed);
            new OracleTest(seed, check).run(seed < DIGESTS);
        }
        for (String told : ASKS) {
            check.promise("ask of " + told);
            new OracleTest(0, check).runAsk(told.split("\\|"));
        }
        check.end();
    }
}
