import java.util.function.Supplier;

/** Tests of boundary cases, each of one sentence of the document, which it quotes. */
abstract class Edges extends Bench {
    /** A call of any act; acts with numbers take them as a row. */
    interface Call {
        long on(DairyCollege x);
    }

    interface Act {
        long on(DairyCollege x, int[] numbers);
    }

    static final String TERMS = "Terms";
    private static final int SMALL = 5;
    static final String EIGHT_MEMBERS = "p4567;t7654;i1357;p8642;t5055;i9999;p0000;t4949";
    static final String EIGHT_COWS = "w5678;r3456;w9009;r0990;w4454;r1111;r8888;w2345";

    private final Document document;

    Edges(Check check, Document document) {
        super(check);
        this.document = document;
    }

    abstract void run();

    /** Begins the test of a sentence. */
    final void of(String chapter, String sentence) {
        check.promise(chapter + ": \"" + sentence + "\"");
        check.holds("the sentence stands in the document", document.quote(chapter, sentence));
    }

    /** All that there can be: eight of each thing, and sheets of 3 bytes, 4 shorts, lost, of no ints; latest finding 3. */
    final DairyCollege full() {
        DairyCollege x = college(EIGHT_MEMBERS, EIGHT_COWS,
            0, 0, 0, 6, 0, 1, 6, 1, 2, 3, 4, 4, 19, 7, 7, 14, 2, 3, 2, 3, 6, 8, 7, 4);
        for (int n = 0; n < 8; n++) {
            x.seen(n, n, n % 4, x.at(n, n, n % 4, 0));
        }
        giveSheets(x);
        return x;
    }

    /** With room for more of each thing. */
    final DairyCollege roomy() {
        DairyCollege x = college("p4567;t7654", "w5678", 1, 0, 0, 5, 2, 0);
        x.seen(4, 1, 2, 5);
        giveSheets(x);
        return x;
    }

    private static void giveSheets(DairyCollege x) {
        x.sheet(0, 0, 3);
        x.sheet(1, 1, 4);
        x.sheet(3, 2, 0);
        for (int i = 0; i < 3; i++) {
            x.put(0, 0, i, i + 1);
            x.put(1, 1, i + 1, 300 * i);
        }
        x.get(0, 1, 0);
    }

    /** A call that is refused changes nothing, but for a finding, which count(8) tells. */
    final void dueRefused(String call, Supplier<DairyCollege> made, Call act, long want, int finding) {
        DairyCollege x = made.get();
        DairyCollege y = made.get();
        due(call, act.on(x), want);
        due("count(8) behind " + call, x.count(8), finding > 0 ? finding : y.count(8));
        dueSame("behind " + call, x, y);
    }

    final void dueRefused(String call, Supplier<DairyCollege> made, Call act, long want) {
        dueRefused(call, made, act, want, want <= NULL && want >= SIZE ? (int) (-10 - want) : 0);
    }

    /** Each number is taken at its least and at its most; beyond them, and at the ends of ints, it is refused. */
    final void dueRanges(String name, Supplier<DairyCollege> made, Act act, long refusal, int[]... ranges) {
        for (int k = 0; k < ranges.length; k++) {
            for (int v : ranges[k]) {
                int[] numbers = numbers(ranges, k, v);
                check.holds(name + told(numbers) + " is taken", act.on(made.get(), numbers) != refusal);
            }
            int[] beyond = {ranges[k][0] - 1, ranges[k][1] + 1, LEAST_INT, MOST_INT};
            for (int v : beyond) {
                int[] numbers = numbers(ranges, k, v);
                dueRefused(name + told(numbers), made, x -> act.on(x, numbers), refusal);
            }
        }
    }

    static int[] to(int least, int most) {
        return new int[] {least, most};
    }

    private static int[] numbers(int[][] ranges, int k, int v) {
        int[] numbers = new int[ranges.length];
        for (int i = 0; i < ranges.length; i++) {
            numbers[i] = i == k ? v : ranges[i][0];
        }
        return numbers;
    }

    private static String told(int[] numbers) {
        StringBuilder s = new StringBuilder("(");
        for (int i = 0; i < numbers.length; i++) {
            s.append(i > 0 ? ", " : "").append(numbers[i]);
        }
        return s.append(')').toString();
    }

    /** Takes both to pieces and compares what comes out; of sheets their first items. */
    final void dueSame(String when, DairyCollege x, DairyCollege y) {
        // The like latest finding to begin with, so that what gets find can be compared.
        due(when + ", a finding", x.sheet(0, 0, -1), y.sheet(0, 0, -1));
        for (int s = 0; s < 4; s++) {
            for (int i = 0; i < 3 * SMALL; i++) {
                due(when + ", item " + i / 3 + " of sheet " + s, x.get(s, i % 3, i / 3), y.get(s, i % 3, i / 3));
                due(when + ", its finding", x.count(8), y.count(8));
            }
            due(when + ", lose(" + s + ")", x.lose(s), y.lose(s));
        }
        for (int what = 0; what <= 7; what++) {
            due(when + ", count(" + what + ")", x.count(what), y.count(what));
        }
        due(when + ", digest", x.digest(), y.digest());
        due(when + ", forget", x.forget(), y.forget());
        for (int n = 0; n <= 8; n++) {
            due(when + ", digest, feed by feed", x.digest(), y.digest());
            due(when + ", back", x.back(), y.back());
        }
        for (int n = 0; n < 2 * (SMALL + 2); n++) {
            due(when + ", undo", x.undo(n % 2), y.undo(n % 2));
            due(when + ", fault", x.fault(n % 2), y.fault(n % 2));
        }
    }
}
