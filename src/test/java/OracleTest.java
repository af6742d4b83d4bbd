import java.util.Random;

/** Runs of calls by chance (of fixed seeds), each answer against the plain model's. */
public final class OracleTest {
    private static final int RUNS = 600, CALLS = 300, DIGESTS = 60;
    private static final int[] ODD = {-1, -2, 8, 10, 20, 61, 256, Integer.MAX_VALUE, Integer.MIN_VALUE};
    private static final String[] NAMES = {
        "type", "wipe", "undo", "fault", "member", "cow", "feed", "back", "read", "at", "able", "house", "pusey",
        "weaned", "says", "power", "rear", "carry", "spare", "seen", "forget", "never", "sort", "first", "ask",
        "cream", "years", "sheet", "lose", "put", "get", "copy", "write", "count"};
    /** How often each is drawn: what wipes much is drawn seldom, what is slow in the model too. */
    private static final int[] SHARES = {
        6, 1, 2, 3, 4, 3, 10, 2, 3, 12, 6, 8, 5,
        2, 4, 3, 10, 6, 6, 6, 1, 5, 5, 6, 8,
        2, 5, 5, 2, 14, 5, 6, 5, 6};

    private final Random random;
    private final Check check;
    private final DairyCollege college = new DairyCollege();
    private final Oracle oracle = new Oracle();
    private boolean right = true;

    private OracleTest(long seed, Check check) {
        this.random = new Random(seed);
        this.check = check;
    }

    private int upTo(int end) {
        return random.nextInt(60) == 0 ? ODD[random.nextInt(ODD.length)] : random.nextInt(end);
    }

    private int choice() {
        return random.nextInt(60) == 0 ? ODD[random.nextInt(ODD.length)] : random.nextInt(3) - 1;
    }

    private void due(String call, long got, long want) {
        right &= check.due(call, got, want);
    }

    private void typeAll(int text, String letters) {
        int n = random.nextInt(4) == 0 ? 8 : random.nextInt(9);
        StringBuilder s = new StringBuilder();
        for (int i = 0; i < n; i++) {
            if (i > 0) s.append(';');
            s.append(letters.charAt(random.nextInt(letters.length())));
            for (int q = 0; q < 4; q++) s.append((char) ('0' + random.nextInt(10)));
        }
        if (random.nextInt(12) == 0 && s.length() > 0) s.setCharAt(random.nextInt(s.length()), "pw0;:/".charAt(random.nextInt(6)));
        for (int i = 0; i < s.length(); i++) due("type", college.type(text, s.charAt(i)), oracle.type(text, s.charAt(i)));
        due("fault", college.fault(text), oracle.fault(text));
    }

    private int member() {
        return upTo(Math.max(1, college.count(0)));
    }

    private int draw() {
        int all = 0;
        for (int share : SHARES) all += share;
        int left = random.nextInt(all);
        for (int i = 0; i < SHARES.length; i++) {
            left -= SHARES[i];
            if (left < 0) return i;
        }
        return 0;
    }

    /** Mostly what would come out so, that answers are not all 0. */
    private void see() {
        int term = upTo(20);
        int member = member();
        int question = upTo(4);
        int much = college.at(term, member, question, 0);
        if (random.nextInt(8) == 0 || much < 0) much = upTo(10);
        due("seen", college.seen(term, member, question, much), oracle.seen(term, member, question, much));
    }

    private void call() {
        int n = draw();
        int a = 0;
        int b = 0;
        int c = 0;
        int d = 0;
        switch (NAMES[n]) {
            case "type": a = upTo(2); b = random.nextBoolean() ? "ptiwr;0359".charAt(random.nextInt(10)) : upTo(256); due("type", college.type(a, b), oracle.type(a, b)); break;
            case "wipe": a = upTo(20) - 10; due("wipe", college.wipe(a), oracle.wipe(a)); break;
            case "undo": a = upTo(2); due("undo", college.undo(a), oracle.undo(a)); break;
            case "fault": a = upTo(2); due("fault", college.fault(a), oracle.fault(a)); break;
            case "member": a = member(); b = upTo(5); due("member", college.member(a, b), oracle.member(a, b)); break;
            case "cow": a = upTo(8); b = upTo(5); due("cow", college.cow(a, b), oracle.cow(a, b)); break;
            case "feed": a = upTo(20); b = upTo(8); c = upTo(8); due("feed", college.feed(a, b, c), oracle.feed(a, b, c)); break;
            case "back": due("back", college.back(), oracle.back()); break;
            case "read": a = upTo(4); due("read", college.read(a), oracle.read(a)); break;
            case "at": a = upTo(20); b = member(); c = upTo(4); d = upTo(4); due("at", college.at(a, b, c, d), oracle.at(a, b, c, d)); break;
            case "able": a = upTo(20); b = member(); c = upTo(3); due("able", college.able(a, b, c), oracle.able(a, b, c)); break;
            case "house": a = upTo(20); b = upTo(4); c = upTo(3); due("house", college.house(a, b, c), oracle.house(a, b, c)); break;
            case "pusey": a = upTo(3); due("pusey", college.pusey(a), oracle.pusey(a)); break;
            case "weaned": due("weaned", college.weaned(), oracle.weaned()); break;
            case "says": a = upTo(4); due("says", college.says(a), oracle.says(a)); break;
            case "power": a = member(); b = upTo(4); c = upTo(2); if (college.count(0) < 7 || random.nextInt(4) == 0) due("power", college.power(a, b, c), oracle.power(a, b, c)); break;
            case "rear": a = member(); b = upTo(4); c = upTo(10); d = choice(); due("rear", college.rear(a, b, c, d), oracle.rear(a, b, c, d)); break;
            default: callMore(NAMES[n]);
        }
    }

    private void callMore(String name) {
        int a = 0;
        int b = 0;
        int c = 0;
        int d = 0;
        switch (name) {
            case "carry": a = upTo(20); b = upTo(4); c = upTo(3); due("carry", college.carry(a, b, c), oracle.carry(a, b, c)); break;
            case "spare": a = choice(); due("spare", college.spare(a), oracle.spare(a)); break;
            case "seen": see(); break;
            case "forget": due("forget", college.forget(), oracle.forget()); break;
            case "never": due("never", college.never(), oracle.never()); break;
            case "sort": a = member(); due("sort", college.sort(a), oracle.sort(a)); break;
            case "first": a = member(); b = upTo(4); due("first", college.first(a, b), oracle.first(a, b)); break;
            case "ask": a = member(); b = upTo(4); due("ask", college.ask(a, b), oracle.ask(a, b)); break;
            case "cream": a = upTo(17); b = upTo(20); c = upTo(4); d = upTo(2); due("cream", college.cream(a, b, c, d), oracle.cream(a, b, c, d)); break;
            case "years": a = random.nextInt(); b = upTo(9); c = upTo(2); due("years", college.years(a, b, c), oracle.years(a, b, c)); break;
            case "sheet": a = upTo(4); b = upTo(3); c = random.nextInt(9) == 0 ? upTo(70) - 5 : upTo(61); due("sheet", college.sheet(a, b, c), oracle.sheet(a, b, c)); break;
            case "lose": a = upTo(4); due("lose", college.lose(a), oracle.lose(a)); break;
            case "put": put(); break;
            case "get": a = upTo(4); b = form(a); c = upTo(12); due("get", college.get(a, b, c), oracle.get(a, b, c)); break;
            case "copy": a = upTo(4); b = upTo(4); c = upTo(30); d = upTo(30); int n = upTo(30); due("copy", college.copy(a, c, b, d, n), oracle.copy(a, c, b, d, n)); break;
            case "write": a = member(); b = upTo(4); c = upTo(4); due("write", college.write(a, b, c), oracle.write(a, b, c)); break;
            default: a = upTo(9); due("count", college.count(a), oracle.count(a));
        }
    }

    private int form(int s) {
        return s >= 0 && s < 4 && random.nextInt(10) != 0 ? oracle.forms[s] : upTo(3);
    }

    private void put() {
        int s = upTo(4);
        int form = form(s);
        int i = upTo(12);
        int v = random.nextInt(10) == 0 ? random.nextInt() : random.nextInt(8);
        due("put", college.put(s, form, i, v), oracle.put(s, form, i, v));
    }

    private void compareSheets() {
        for (int s = 0; s < 4; s++) {
            int n = oracle.sheets[s] == null ? 0 : oracle.sheets[s].length;
            for (int i = 0; i < n; i++) due("get", college.get(s, oracle.forms[s], i), oracle.sheets[s][i]);
        }
        for (int what = 0; what <= 8; what++) due("count", college.count(what), oracle.count(what));
    }

    private boolean run(boolean withDigest) {
        typeAll(0, "pti");
        typeAll(1, "wr");
        int n = withDigest ? 12 + random.nextInt(100) : CALLS;
        for (int i = 0; i < n && right; i++) call();
        if (withDigest) {
            due("digest", college.digest(), oracle.digest());
        }
        compareSheets();
        return right;
    }

    public static void main(String[] args) {
        Check check = new Check("OracleTest");
        for (int seed = 0; seed < RUNS; seed++) {
            check.promise("run by seed " + seed);
            new OracleTest(seed, check).run(seed < DIGESTS);
        }
        check.end();
    }
}
