import java.math.BigInteger;
import java.util.ArrayList;
import java.util.List;

/**
 * The document once more, written as slowly and plainly as its words: every question is answered
 * from a whole history of all terms, power by going through all rows, cream by all sets of feeds.
 */
final class Oracle {
    static final int NONE = -1, BAD = -2, NOT = -3, FULL = -4;
    static final long LONG_BAD = Long.MIN_VALUE + 2;

    final StringBuilder[] texts = {new StringBuilder(), new StringBuilder()};
    final List<int[]> feeds = new ArrayList<>();
    final List<int[]> seen = new ArrayList<>();
    final int[][] sheets = new int[4][];
    final int[] forms = new int[4];
    int finding = 0;

    record Member(char sort, int[] first) { }

    record Cow(boolean warm, int[] argument) { }

    /** One member behind one term. */
    static final class Mind {
        int[] held, least, most;
        int stomach, sick;
        boolean knows;

        Mind copy() {
            Mind c = new Mind();
            c.held = held.clone();
            c.least = least.clone();
            c.most = most.clone();
            c.stomach = stomach;
            c.sick = sick;
            c.knows = knows;
            return c;
        }
    }

    // ---- texts

    int fault(int text) {
        if (text != 0 && text != 1) return BAD;
        String t = texts[text].toString();
        if (t.isEmpty()) return NONE;
        String one = text == 0 ? "[pti][0-9]{4}" : "[wr][0-9]{4}";
        if (t.matches(one + "(;" + one + "){0,7}")) return NONE;
        for (int n = 1; n <= t.length(); n++) {
            if (!canGoOn(t.substring(0, n), text == 0 ? "p" : "w", one)) return n - 1;
        }
        return t.length();
    }

    /** Whether something behind it, the rest of a thing or nothing, makes the start of a text whole. */
    private static boolean canGoOn(String start, String letter, String one) {
        String whole = one + "(;" + one + "){0,7}";
        String rest = letter + "0000";
        for (int there = 0; there <= 5; there++) {
            if ((start + rest.substring(there)).matches(whole)) return true;
        }
        return false;
    }

    List<Member> members() {
        List<Member> list = new ArrayList<>();
        if (fault(0) == NONE && texts[0].length() > 0) {
            for (String s : texts[0].toString().split(";")) list.add(new Member(s.charAt(0), figures(s)));
        }
        return list;
    }

    List<Cow> cows() {
        List<Cow> list = new ArrayList<>();
        if (fault(1) == NONE && texts[1].length() > 0) {
            for (String s : texts[1].toString().split(";")) list.add(new Cow(s.charAt(0) == 'w', figures(s)));
        }
        return list;
    }

    private static int[] figures(String s) {
        int[] f = new int[4];
        for (int q = 0; q < 4; q++) f[q] = s.charAt(q + 1) - '0';
        return f;
    }

    // ---- the history

    Mind[][] history(List<Member> ms, List<int[]> fs) {
        List<Cow> cs = cows();
        Mind[] now = new Mind[ms.size()];
        for (int m = 0; m < now.length; m++) {
            Mind mind = new Mind();
            mind.held = ms.get(m).first().clone();
            mind.least = ms.get(m).first().clone();
            mind.most = ms.get(m).first().clone();
            mind.stomach = switch (ms.get(m).sort()) { case 't' -> 2; case 'p' -> 3; default -> 5; };
            now[m] = mind;
        }
        Mind[][] all = new Mind[20][now.length];
        for (int term = 0; term < 20; term++) {
            for (int[] f : fs) {
                if (f[0] == term && f[1] < ms.size() && f[2] < cs.size()) {
                    give(now[f[1]], ms.get(f[1]).sort(), cs.get(f[2]));
                }
            }
            for (int m = 0; m < now.length; m++) {
                now[m].knows = true;
                for (int q = 0; q < 4; q++) {
                    if (Math.abs(now[m].held[q] - ms.get(m).first()[q]) > 2) now[m].knows = false;
                }
                all[term][m] = now[m].copy();
            }
        }
        return all;
    }

    private static void give(Mind mind, char sort, Cow cow) {
        boolean well = true;
        for (int q = 0; q < 4; q++) {
            int a = cow.argument()[q];
            int can = mind.stomach + (cow.warm() ? 2 : 0);
            if (Math.abs(a - mind.held[q]) > can) {
                mind.sick++;
                well = false;
                continue;
            }
            mind.least[q] = Math.min(mind.least[q], a);
            mind.most[q] = Math.max(mind.most[q], a);
            int steps = sort == 'p' ? 1 : sort == 't' ? 2 : 0;
            for (int i = 0; i < steps; i++) mind.held[q] += Integer.compare(a, mind.held[q]);
        }
        if (well) mind.stomach = Math.min(9, mind.stomach + 1);
    }

    Mind[][] history() {
        return history(members(), feeds);
    }

    private static boolean in(int v, int from, int to) {
        return v >= from && v <= to;
    }

    private static int ayes(Mind[] minds, int q) {
        int n = 0;
        for (Mind m : minds) if (m.held[q] >= 5) n++;
        return n;
    }

    private static boolean haveIt(int ayes, int n) {
        return ayes > n / 2.0;
    }

    // ---- members, cows, feeds

    int type(int text, int b) {
        if (!in(text, 0, 1) || !in(b, 0, 255)) return BAD;
        if (texts[text].length() == 47) return FULL;
        texts[text].append((char) b);
        return texts[text].length();
    }

    int wipe(int text) {
        if (!in(text, 0, 1)) return BAD;
        int n = texts[text].length();
        texts[text].setLength(0);
        return n;
    }

    int undo(int text) {
        if (!in(text, 0, 1)) return BAD;
        int n = texts[text].length();
        if (n == 0) return NOT;
        texts[text].setLength(n - 1);
        return n - 1;
    }

    int member(int member, int what) {
        List<Member> ms = members();
        if (!in(member, 0, ms.size() - 1) || !in(what, 0, 4)) return BAD;
        return what == 0 ? "pti".indexOf(ms.get(member).sort()) : ms.get(member).first()[what - 1];
    }

    int cow(int cow, int what) {
        List<Cow> cs = cows();
        if (!in(cow, 0, cs.size() - 1) || !in(what, 0, 4)) return BAD;
        return what == 0 ? (cs.get(cow).warm() ? 1 : 0) : cs.get(cow).argument()[what - 1];
    }

    int feed(int term, int member, int cow) {
        if (!in(term, 0, 19) || !in(member, 0, 7) || !in(cow, 0, 7)) return BAD;
        if (feeds.size() == 8) return FULL;
        feeds.add(new int[] {term, member, cow});
        return feeds.size();
    }

    int back() {
        if (feeds.isEmpty()) return NOT;
        feeds.remove(feeds.size() - 1);
        return feeds.size();
    }

    private int found(int number) {
        finding = number;
        return -10 - number;
    }

    int read(int s) {
        if (!in(s, 0, 3)) return BAD;
        if (sheets[s] == null) return found(1);
        int taken = 0;
        for (int k = 0; k < sheets[s].length / 3; k++) {
            if (feed(sheets[s][3 * k], sheets[s][3 * k + 1], sheets[s][3 * k + 2]) < 0) return taken;
            taken++;
        }
        return taken;
    }

    // ---- terms

    int at(int term, int member, int question, int what) {
        if (!in(term, 0, 19) || !in(member, 0, members().size() - 1) || !in(question, 0, 3) || !in(what, 0, 3)) return BAD;
        Mind m = history()[term][member];
        int[] answers = {m.held[question], m.least[question], m.most[question], m.held[question] >= 5 ? 1 : 0};
        return answers[what];
    }

    int able(int term, int member, int what) {
        if (!in(term, 0, 19) || !in(member, 0, members().size() - 1) || !in(what, 0, 2)) return BAD;
        Mind m = history()[term][member];
        int[] answers = {m.stomach, m.sick, m.knows ? 1 : 0};
        return answers[what];
    }

    int house(int term, int question, int what) {
        if (!in(term, 0, 19) || !in(question, 0, 3) || !in(what, 0, 2)) return BAD;
        Mind[] minds = history()[term];
        int n = ayes(minds, question);
        int hinges = 0;
        for (int m = 0; m < minds.length; m++) {
            int other = minds[m].held[question] >= 5 ? n - 1 : n + 1;
            if (haveIt(other, minds.length) != haveIt(n, minds.length)) hinges += 1 << m;
        }
        int[] answers = {n, haveIt(n, minds.length) ? 1 : 0, hinges};
        return answers[what];
    }

    int pusey(int what) {
        if (!in(what, 0, 2)) return BAD;
        Mind[][] all = history();
        for (int term = 0; term < 20; term++) {
            for (int m = 0; m < all[term].length; m++) {
                for (int q = 0; q < 4; q++) {
                    if (all[term][m].least[q] == 0 && all[term][m].most[q] == 9) {
                        int[] answers = {term, m, q};
                        return answers[what];
                    }
                }
            }
        }
        return NONE;
    }

    private int unknowing(List<int[]> fs) {
        int bits = 0;
        Mind[] minds = history(members(), fs)[19];
        for (int m = 0; m < minds.length; m++) if (!minds[m].knows) bits += 1 << m;
        return bits;
    }

    private int sickness(List<int[]> fs) {
        int sum = 0;
        for (Mind m : history(members(), fs)[19]) sum += m.sick;
        return sum;
    }

    int weaned() {
        return unknowing(feeds);
    }

    int says(int question) {
        if (!in(question, 0, 3)) return BAD;
        Mind[] minds = history()[19];
        if (!haveIt(ayes(minds, question), minds.length)) return NONE;
        for (int m = 0; m < minds.length; m++) if (minds[m].held[question] < 5) return m;
        return NONE;
    }

    private static long part(BigInteger above, BigInteger below, int what) {
        BigInteger g = above.gcd(below);
        return (what == 0 ? above : below).divide(g).longValueExact();
    }

    private int allRows, rowsOfIt;

    long power(int member, int question, int what) {
        if (!in(member, 0, members().size() - 1) || !in(question, 0, 3) || !in(what, 0, 1)) return LONG_BAD;
        Mind[] minds = history()[19];
        int[] weight = new int[minds.length];
        int all = 0;
        for (int m = 0; m < minds.length; m++) {
            for (int side = 0; side <= 9; side++) {
                if (minds[m].least[question] <= side && side <= minds[m].most[question]) weight[m]++;
            }
            all += weight[m];
        }
        allRows = 0;
        rowsOfIt = 0;
        walkRows(weight, new boolean[weight.length], 0, 0, all, new int[] {member, NONE});
        return part(BigInteger.valueOf(rowsOfIt), BigInteger.valueOf(allRows), what);
    }

    private void walkRows(int[] weight, boolean[] used, int depth, int sum, int all, int[] itAndTurner) {
        if (depth == weight.length) {
            allRows++;
            if (itAndTurner[0] == itAndTurner[1]) rowsOfIt++;
            return;
        }
        for (int m = 0; m < weight.length; m++) {
            if (used[m]) continue;
            used[m] = true;
            boolean turns = 2 * sum <= all && 2 * (sum + weight[m]) > all;
            walkRows(weight, used, depth + 1, sum + weight[m], all, new int[] {itAndTurner[0], turns ? m : itAndTurner[1]});
            used[m] = false;
        }
    }

    // ---- plans

    private List<int[]> plus(int[]... more) {
        List<int[]> fs = new ArrayList<>(feeds);
        for (int[] f : more) fs.add(f);
        return fs;
    }

    private static int planned(int[] plan, int i) {
        if (plan == null) return NONE;
        return i == NONE ? plan.length : i < plan.length ? plan[i] : NONE;
    }

    int rear(int member, int question, int side, int i) {
        if (!in(member, 0, members().size() - 1) || !in(question, 0, 3) || !in(side, 0, 9) || !in(i, -1, 1)) return BAD;
        return planned(rearPlan(member, question, side), i);
    }

    private int[] rearPlan(int member, int question, int side) {
        int n = cows().size();
        if (speaks(member, question, side, plus())) return new int[] {};
        for (int a = 0; a < n; a++) {
            if (speaks(member, question, side, plus(new int[] {19, member, a}))) return new int[] {a};
        }
        for (int a = 0; a < n; a++) {
            for (int b = 0; b < n; b++) {
                if (speaks(member, question, side, plus(new int[] {19, member, a}, new int[] {19, member, b}))) return new int[] {a, b};
            }
        }
        return null;
    }

    private boolean speaks(int member, int question, int side, List<int[]> fs) {
        Mind m = history(members(), fs)[19][member];
        return in(side, m.least[question], m.most[question]);
    }

    int carry(int term, int question, int what) {
        if (!in(term, 0, 19) || !in(question, 0, 3) || !in(what, 0, 2)) return BAD;
        int[] best = {NONE, NONE, NONE};
        List<Member> ms = members();
        for (int m = 0; m < ms.size(); m++) {
            for (int c = 0; c < cows().size(); c++) {
                int n = ayes(history(ms, plus(new int[] {term, m, c}))[19], question);
                if (n > best[2]) best = new int[] {m, c, n};
            }
        }
        return best[what];
    }

    private List<int[]> without(int a, int b) {
        List<int[]> fs = new ArrayList<>();
        for (int f = 0; f < feeds.size(); f++) if (f != a && f != b) fs.add(feeds.get(f));
        return fs;
    }

    int spare(int i) {
        if (!in(i, -1, 1)) return BAD;
        return planned(sparePlan(), i);
    }

    private int[] sparePlan() {
        if (unknowing(feeds) == 0) return new int[] {};
        for (int a = 0; a < feeds.size(); a++) if (unknowing(without(a, a)) == 0) return new int[] {a};
        for (int a = 0; a < feeds.size(); a++) {
            for (int b = a + 1; b < feeds.size(); b++) if (unknowing(without(a, b)) == 0) return new int[] {a, b};
        }
        return null;
    }

    // ---- seen, cream, years

    int seen(int term, int member, int question, int much) {
        if (!in(term, 0, 19) || !in(member, 0, 7) || !in(question, 0, 3) || !in(much, 0, 9)) return BAD;
        if (seen.size() == 8) return FULL;
        seen.add(new int[] {term, member, question, much});
        return seen.size();
    }

    int forget() {
        int n = seen.size();
        seen.clear();
        return n;
    }

    private boolean comesOut(List<Member> ms, List<int[]> fs) {
        Mind[][] all = history(ms, fs);
        for (int[] s : seen) {
            if (s[1] >= ms.size() || all[s[0]][s[1]].held[s[2]] != s[3]) return false;
        }
        return true;
    }

    int never() {
        int bits = 0;
        for (int f = 0; f < feeds.size(); f++) if (comesOut(members(), without(f, f))) bits += 1 << f;
        return bits;
    }

    private List<Member> with(int member, Member other) {
        List<Member> ms = members();
        ms.set(member, other);
        return ms;
    }

    int sort(int member) {
        List<Member> ms = members();
        if (!in(member, 0, ms.size() - 1)) return BAD;
        int bits = 0;
        for (int k = 0; k < 3; k++) {
            if (comesOut(with(member, new Member("pti".charAt(k), ms.get(member).first())), feeds)) bits += 1 << k;
        }
        return bits;
    }

    private List<Member> holding(int member, int question, int much) {
        Member own = members().get(member);
        int[] first = own.first().clone();
        first[question] = much;
        return with(member, new Member(own.sort(), first));
    }

    int first(int member, int question) {
        if (!in(member, 0, members().size() - 1) || !in(question, 0, 3)) return BAD;
        int bits = 0;
        for (int much = 0; much <= 9; much++) if (comesOut(holding(member, question, much), feeds)) bits += 1 << much;
        return bits;
    }

    int ask(int member, int question) {
        int bits = first(member, question);
        if (bits <= 0) return bits;
        int[][] groups = new int[20][10];
        for (int much = 0; much <= 9; much++) {
            if ((bits & 1 << much) == 0) continue;
            Mind[][] all = history(holding(member, question, much), feeds);
            for (int term = 0; term < 20; term++) groups[term][all[term][member].held[question]]++;
        }
        int best = 0;
        for (int term = 1; term < 20; term++) if (greatest(groups[term]) < greatest(groups[best])) best = term;
        return best;
    }

    private static int greatest(int[] row) {
        int most = 0;
        for (int v : row) most = Math.max(most, v);
        return most;
    }

    long cream(int c, int term, int question, int what) {
        if (!in(c, 0, 16) || !in(term, 0, 19) || !in(question, 0, 3) || !in(what, 0, 1)) return LONG_BAD;
        BigInteger above = BigInteger.ZERO;
        List<Member> ms = members();
        for (int set = 0; set < 1 << feeds.size(); set++) {
            List<int[]> fs = new ArrayList<>();
            BigInteger chance = BigInteger.ONE;
            for (int f = 0; f < feeds.size(); f++) {
                boolean is = (set & 1 << f) != 0;
                if (is) fs.add(feeds.get(f));
                chance = chance.multiply(BigInteger.valueOf(is ? c : 16 - c));
            }
            if (haveIt(ayes(history(ms, fs)[term], question), ms.size())) above = above.add(chance);
        }
        return part(above, BigInteger.valueOf(16).pow(feeds.size()), what);
    }

    private int seed;

    private int lot(int m) {
        seed = seed * 1103515245 + 12345;
        return (int) (((long) seed & 0xffffffffL) / 65536 % m);
    }

    int years(int seed, int n, int what) {
        if (!in(n, 0, 8) || !in(what, 0, 1)) return BAD;
        List<int[]> fs = new ArrayList<>();
        this.seed = seed;
        int m = members().size();
        int c = cows().size();
        for (int i = 0; i < n && m > 0 && c > 0; i++) {
            int term = lot(20);
            int who = lot(m);
            fs.add(new int[] {term, who, lot(c)});
        }
        return what == 0 ? Integer.bitCount(unknowing(fs)) : sickness(fs);
    }

    // ---- sheets

    int sheet(int s, int form, int n) {
        if (!in(s, 0, 3) || !in(form, 0, 2) || n > 60) return BAD;
        if (n < 0) return found(5);
        sheets[s] = new int[n];
        forms[s] = form;
        return n;
    }

    int lose(int s) {
        if (!in(s, 0, 3)) return BAD;
        if (sheets[s] == null) return found(1);
        int n = sheets[s].length;
        sheets[s] = null;
        return n;
    }

    int put(int s, int form, int i, int v) {
        if (!in(s, 0, 3) || !in(form, 0, 2)) return BAD;
        if (sheets[s] == null) return found(1);
        if (forms[s] != form) return found(3);
        if (!in(i, 0, sheets[s].length - 1)) return found(2);
        sheets[s][i] = form == 0 ? (byte) v : form == 1 ? (short) v : v;
        return 1;
    }

    int get(int s, int form, int i) {
        if (!in(s, 0, 3) || !in(form, 0, 2)) return Integer.MIN_VALUE;
        int number = sheets[s] == null ? 1 : forms[s] != form ? 3 : !in(i, 0, sheets[s].length - 1) ? 2 : 0;
        if (number == 0) return sheets[s][i];
        found(number);
        return Integer.MIN_VALUE;
    }

    int copy(int s, int i, int t, int j, int n) {
        if (!in(s, 0, 3) || !in(t, 0, 3)) return BAD;
        if (sheets[s] == null || sheets[t] == null) return found(1);
        if (forms[s] != forms[t]) return found(4);
        if (i < 0 || j < 0 || n < 0 || (long) i + n > sheets[s].length || (long) j + n > sheets[t].length) return found(2);
        int[] were = sheets[s].clone();
        for (int k = 0; k < n; k++) sheets[t][j + k] = were[i + k];
        return 1;
    }

    int write(int member, int question, int s) {
        if (!in(member, 0, members().size() - 1) || !in(question, 0, 3) || !in(s, 0, 3)) return BAD;
        if (sheets[s] == null) return found(1);
        Mind[][] all = history();
        int n = 0;
        while (n < 20 && n < sheets[s].length) {
            sheets[s][n] = all[n][member].held[question];
            n++;
        }
        return n;
    }

    int count(int what) {
        switch (what) {
            case 0: return members().size();
            case 1: return cows().size();
            case 2: return texts[0].length();
            case 3: return texts[1].length();
            case 4: return feeds.size();
            case 5: return Integer.bitCount(weaned());
            case 6: return sickness(feeds);
            case 7: return seen.size();
            case 8: return finding;
            default: return BAD;
        }
    }

    private long h;

    private void mix(long v) {
        h = 31 * h + v;
    }

    long digest() {
        h = 17;
        for (int w = 0; w <= 7; w++) mix(count(w));
        mix(fault(0));
        mix(fault(1));
        for (int c = 0; c < cows().size(); c++) for (int w = 0; w <= 4; w++) mix(cow(c, w));
        for (int m = 0; m < members().size(); m++) {
            for (int w = 0; w <= 4; w++) mix(member(m, w));
            for (int term : new int[] {0, 6, 19}) for (int w = 0; w <= 2; w++) mix(able(term, m, w));
            for (int q = 0; q <= 3; q++) {
                for (int w = 0; w <= 3; w++) mix(at(6, m, q, w));
                for (int w = 0; w <= 3; w++) mix(at(19, m, q, w));
                mix(power(m, q, 0));
                mix(power(m, q, 1));
                mix(rear(m, q, 9, NONE));
                mix(rear(m, q, 9, 0));
                mix(first(m, q));
                mix(ask(m, q));
            }
            mix(sort(m));
        }
        for (int q = 0; q <= 3; q++) {
            for (int w = 0; w <= 2; w++) mix(house(6, q, w));
            for (int w = 0; w <= 2; w++) mix(house(19, q, w));
            mix(says(q));
            for (int w = 0; w <= 2; w++) mix(carry(8, q, w));
            mix(cream(5, 14, q, 0));
            mix(cream(5, 14, q, 1));
        }
        for (int w = 0; w <= 2; w++) mix(pusey(w));
        mix(weaned());
        mix(spare(NONE));
        mix(spare(0));
        mix(never());
        mix(years(7, 6, 0));
        mix(years(7, 6, 1));
        return h;
    }
}
