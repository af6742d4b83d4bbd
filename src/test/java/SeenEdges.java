import java.math.BigInteger;

/** Boundary cases of what was seen, of cream and of years: promises 21 to 28, and what "Terms" says of them. */
final class SeenEdges extends Edges {
    private static final long SETS = 1L << 32;

    SeenEdges(Check check, Document document) {
        super(check, document);
    }

    @Override
    void run() {
        eightSeen();
        seenWhat();
        seenOfNobody();
        seenAnswers();
        forgotten();
        neverAlone();
        neverEnds();
        sortInPlace();
        sortAnswers();
        firstInPlace();
        firstAnswers();
        askLeast();
        askAnswers();
        creamEnds();
        creamByItself();
        creamTerm();
        creamAnswers();
        lots();
        yearsInPlace();
        yearsOfNobody();
        yearsAnswers();
    }

    private void eightSeen() {
        of(TERMS, "SEEN, 8 at most");
        DairyCollege x = college("p5555", "");
        for (int n = 1; n <= 8; n++) {
            due("seen " + n, x.seen(n, 0, 0, 5), n);
        }
        due("seen 9", x.seen(9, 0, 0, 4), FULL);
        due("count(7)", x.count(7), 8);
        due("sort(0), the ninth was not taken", x.sort(0), 7);
        due("forget", x.forget(), 8);
        due("seen 1 again", x.seen(0, 0, 0, 4), 1);
        due("sort(0)", x.sort(0), 0);
        DairyCollege y = college("p5555", "");
        for (int n = 1; n <= 7; n++) {
            y.seen(n, 0, 0, 5);
        }
        due("seen 8", y.seen(8, 0, 0, 4), 8);
        due("sort(0), the eighth counts", y.sort(0), 0);
    }

    private void seenWhat() {
        of(TERMS, "behind a TERM a MEMBER (0 to 7");
        DairyCollege x = college("p4444;p5555", "r5555", 7, 0, 0);
        int[][] rows = {{6, 0, 0, 4, 1}, {6, 0, 0, 5, 0}, {7, 0, 0, 5, 1}, {7, 0, 0, 4, 0}, {0, 1, 3, 5, 1}, {0, 0, 3, 5, 0},
            {19, 0, 0, 5, 1}, {0, 0, 0, 4, 1}, {19, 1, 0, 5, 1}, {19, 1, 0, 9, 0}};
        for (int[] row : rows) {
            due("seen", x.seen(row[0], row[1], row[2], row[3]), 1);
            due("comes out so, by its own sort", x.sort(0) & 1, row[4]);
            x.forget();
        }
        of(TERMS, "HELD so much (0 to 9) of a QUESTION.");
        DairyCollege y = college("i0946", "");
        for (int q = 0; q < 4; q++) {
            for (int much = 0; much <= 9; much++) {
                due("seen", y.seen(3, 0, q, much), 1);
                due("sort(0) of " + much, y.sort(0), much == y.member(0, q + 1) ? 7 : 0);
                y.forget();
            }
        }
    }

    private void seenOfNobody() {
        of(TERMS, "of one that there is not nothing ever comes out so)");
        DairyCollege x = college("p0000;p0000", "r0000", 0, 0, 0);
        due("seen", x.seen(0, 2, 0, 0), 1);
        due("never", x.never(), 0);
        due("sort(0)", x.sort(0), 0);
        due("first(1, 0)", x.first(1, 0), 0);
        due("ask(1, 0)", x.ask(1, 0), 0);
        x.type(0, ';');
        typeMore(x, "p0000");
        due("never, when it is there", x.never(), 1);
        due("sort(0), when it is there", x.sort(0), 7);
        due("first(1, 0), when it is there", x.first(1, 0), 1023);
        due("first(2, 0)", x.first(2, 0), 1);
        x.forget();
        due("seen of the eighth", x.seen(19, 7, 3, 0), 1);
        due("never", x.never(), 0);
        x.type(0, ';');
        typeMore(x, "p0000;p0000;p0000;p0000;p0000");
        due("never, when the eighth is there", x.never(), 1);
    }

    private static void typeMore(DairyCollege x, String s) {
        for (int i = 0; i < s.length(); i++) {
            x.type(0, s.charAt(i));
        }
    }

    private void seenAnswers() {
        String chapter = "Promise 21: seen";
        of(chapter, "SEEN more: how many.");
        DairyCollege x = new DairyCollege();
        due("seen", x.seen(0, 0, 0, 0), 1);
        due("seen, the like one", x.seen(0, 0, 0, 0), 2);
        of(chapter, "BAD; FULL.");
        Act seen = (y, n) -> y.seen(n[0], n[1], n[2], n[3]);
        dueRanges("seen", this::roomy, seen, BAD, to(0, 19), to(0, 7), to(0, 3), to(0, 9));
        dueRanges("seen", DairyCollege::new, seen, BAD, to(0, 19), to(0, 7), to(0, 3), to(0, 9));
        dueRefused("seen, the ninth", this::full, y -> y.seen(0, 0, 0, 0), FULL);
        dueRefused("seen, a bad ninth", this::full, y -> y.seen(0, 0, 0, 10), BAD);
        dueRefused("seen, a bad ninth", this::full, y -> y.seen(20, 0, 0, 0), BAD);
    }

    private void forgotten() {
        of("Promise 22: forget", "All SEEN are forgotten: how many.");
        for (int n = 0; n <= 8; n++) {
            DairyCollege x = college("p5555", "r5555", 0, 0, 0);
            for (int k = 0; k < n; k++) {
                x.seen(k, 0, 0, 9);
            }
            due("first(0, 1)", x.first(0, 1), n == 0 ? 1023 : 0);
            due("forget of " + n, x.forget(), n);
            due("count(7)", x.count(7), 0);
            due("first(0, 1)", x.first(0, 1), 1023);
            due("forget again", x.forget(), 0);
            due("feeds stay", x.count(4), 1);
        }
    }

    private void neverAlone() {
        of(TERMS, "NEVER: FEEDS each of which, had it alone not been, makes all that was SEEN come out so, as bits.");
        DairyCollege x = college("p5555;p5555", "r6555;r7555", 2, 0, 0, 4, 0, 1, 3, 1, 0);
        x.seen(4, 0, 0, 6);
        due("either of two", x.never(), 3);
        x.seen(3, 0, 0, 6);
        due("the second alone", x.never(), 2);
        x.seen(3, 1, 0, 5);
        due("not both, of two members", x.never(), 0);
        x.forget();
        x.seen(19, 0, 0, 5);
        due("both would have to go", x.never(), 0);
        x.forget();
        x.seen(19, 0, 0, 7);
        due("as it is: one of another", x.never(), 4);
        DairyCollege y = college("p5555", "r6666", 0, 7, 0, 0, 0, 7);
        y.seen(0, 0, 0, 5);
        due("feeds that come to nothing", y.never(), 3);
    }

    private void neverEnds() {
        of("Promise 23: never", "NEVER, as bits.");
        due("no feeds, none seen", new DairyCollege().never(), 0);
        DairyCollege x = new DairyCollege();
        for (int n = 1; n <= 8; n++) {
            x.feed(0, 0, 0);
            due("none seen, " + n + " feeds", x.never(), (1 << n) - 1);
        }
        DairyCollege y = college("i5555;p5555", "r6666", 0, 0, 0, 0, 0, 0, 0, 0, 0, 0, 0, 0, 0, 0, 0, 0, 0, 0, 0, 0, 0, 9, 1, 0);
        y.seen(9, 1, 0, 5);
        due("the eighth alone", y.never(), 128);
    }

    private void sortInPlace() {
        of(TERMS, "SORT of a MEMBER: 0 p, 1 t, 2 i, in place of its own, likewise, as bits.");
        // Behind a feed of 8, warmed: a plain one holds 6, a tender one 7, iron 5.
        String[] members = {"p5555", "t5555", "i5555"};
        for (String member : members) {
            DairyCollege x = college(member + ";t5555", "w8888", 2, 0, 0);
            due("none seen", x.sort(0), 7);
            int[] wants = {0, 0, 0, 0, 0, 4, 1, 2, 0, 0};
            for (int much = 0; much <= 9; much++) {
                x.seen(2, 0, 0, much);
                due(member + " that held " + much, x.sort(0), wants[much]);
                x.forget();
            }
            x.seen(1, 0, 0, 5);
            due("ahead of the feed", x.sort(0), 7);
            x.seen(2, 1, 0, 5);
            due("with what was seen of another", x.sort(0), 7);
            x.seen(2, 1, 1, 6);
            due("with what does not come out so of another", x.sort(0), 0);
        }
        dueOfAnothersFeeds("sort", x -> x.sort(0), 7);
        // Raw, a tender one cannot stomach it: it holds what iron holds.
        DairyCollege y = college("p5555", "r8888", 2, 0, 0);
        y.seen(2, 0, 0, 5);
        due("two sorts", y.sort(0), 6);
    }

    /** What was seen of another comes out so by each of its feeds, the first told and the last. */
    private void dueOfAnothersFeeds(String call, Call act, long want) {
        DairyCollege x = college("p5555;p5555", "r6555;r7555", 9, 1, 1, 0, 1, 0);
        x.seen(9, 1, 0, 7);
        due(call + ", what another held in the end", act.on(x), want);
        x.seen(8, 1, 0, 6);
        due(call + ", what another held ahead of that", act.on(x), want);
        x.back();
        due(call + ", what another did not hold", act.on(x), 0);
        x.forget();
        x.seen(9, 1, 0, 6);
        due(call + ", what another held by one feed", act.on(x), want);
    }

    private void sortAnswers() {
        String chapter = "Promise 24: sort";
        of(chapter, "SORT, as bits. BAD.");
        dueRanges("sort", this::full, (x, n) -> x.sort(n[0]), BAD, to(0, 7));
        dueRanges("sort", this::roomy, (x, n) -> x.sort(n[0]), BAD, to(0, 1));
        due("sort where there is none", new DairyCollege().sort(0), BAD);
    }

    private void firstInPlace() {
        of(TERMS, "FIRST of a MEMBER and a QUESTION: 0 to 9, in place of what it held at first, likewise, as bits.");
        DairyCollege x = college("i5555;p5555", "");
        due("none seen", x.first(0, 0), 1023);
        for (int much = 0; much <= 9; much++) {
            x.seen(0, 0, 2, much);
            due("held " + much, x.first(0, 2), 1 << much);
            due("another question, " + much, x.first(0, 1), much == 5 ? 1023 : 0);
            due("another member, " + much, x.first(1, 2), much == 5 ? 1023 : 0);
            x.forget();
        }
        x.seen(0, 0, 2, 3);
        x.seen(1, 0, 2, 4);
        due("not both", x.first(0, 2), 0);
        // Of 2 or less, of 8 or more it is sick, and by that the next one too, of another question.
        DairyCollege y = college("t5555", "r5555;r5855", 2, 0, 0, 3, 0, 1);
        y.seen(2, 0, 0, 5);
        due("those that came to 5", y.first(0, 0), 1 << 3 | 1 << 4 | 1 << 5 | 1 << 6 | 1 << 7);
        y.forget();
        y.seen(3, 0, 1, 7);
        due("by another question", y.first(0, 0), 1 << 3 | 1 << 4 | 1 << 5 | 1 << 6 | 1 << 7);
        y.forget();
        y.seen(3, 0, 1, 5);
        due("by another question", y.first(0, 0), 1 << 0 | 1 << 1 | 1 << 2 | 1 << 8 | 1 << 9);
        dueOfAnothersFeeds("first", z -> z.first(0, 0), 1023);
    }

    private void firstAnswers() {
        String chapter = "Promise 25: first";
        of(chapter, "FIRST, as bits. BAD.");
        Act first = (x, n) -> x.first(n[0], n[1]);
        dueRanges("first", this::full, first, BAD, to(0, 7), to(0, 3));
        dueRanges("first", this::roomy, first, BAD, to(0, 1), to(0, 3));
        due("first where there is none", new DairyCollege().first(0, 0), BAD);
    }

    /**
     * The third question, at first 0 to 9: by the feeds of term 0 those of 3 on all hold 5, seven alike;
     * those of 5 on have by then the stomach for 9 in a later term and go to 7, those of 3 and 4 have not: five alike.
     */
    private DairyCollege sundered(int term) {
        return college("t1377;p0000", "r1376;r3895;r2156", 0, 0, 0, term, 0, 1, 0, 0, 2);
    }

    private void askLeast() {
        String sentence = "ASK of a MEMBER and a QUESTION: the TERM behind which the greatest number of those of FIRST by which "
            + "it HOLDS alike is least, of like ones the least";
        of(TERMS, sentence);
        due("in term 3", sundered(3).ask(0, 2), 3);
        due("in term 1", sundered(1).ask(0, 2), 1);
        due("in term 19", sundered(19).ask(0, 2), 19);
        due("another question", sundered(3).ask(0, 0), 0);
        due("none fed", college("p5555", "").ask(0, 0), 0);
        DairyCollege x = sundered(3);
        x.seen(1, 0, 2, 5);
        due("those of 3 on alone", x.ask(0, 2), 3);
        x.forget();
        x.seen(19, 0, 2, 7);
        due("five that go alike all the way", x.ask(0, 2), 0);
        x.forget();
        x.seen(0, 0, 2, 2);
        due("one alone", x.ask(0, 2), 0);
        // Those of 0 and 1, or of 9 and 8, hold alike behind term 0; in it those of 1, of 8 have got the greater stomach.
        DairyCollege low = college("p5567", "w6548;w1496;r6817", 0, 0, 0, 0, 0, 1, 1, 0, 2);
        low.seen(0, 0, 0, 1);
        due("those of 0 and 1", low.first(0, 0), 3);
        due("those of 0 and 1", low.ask(0, 0), 1);
        DairyCollege high = college("p4432", "w3451;w8503;r3182", 0, 0, 0, 0, 0, 1, 1, 0, 2);
        high.seen(0, 0, 0, 8);
        due("those of 8 and 9", high.first(0, 0), 3 << 8);
        due("those of 8 and 9", high.ask(0, 0), 1);
        // All ten hold 5 behind term 0; in term 1 nine go to 3, and the one of 9, once sick, cannot.
        due("all ten alike, then nine", college("t5000", "w4000;w5000;r0000", 0, 0, 0, 0, 0, 1, 0, 0, 1, 1, 0, 2).ask(0, 0), 1);
        DairyCollege y = college("t1377;p0000", "r1376;r3895;r2156", 5, 1, 2, 0, 0, 0, 3, 0, 1, 0, 0, 2);
        y.seen(5, 1, 0, 1);
        due("what was seen of another that was fed", y.ask(0, 2), 3);
        of(TERMS, "(where there are none of these: 0)");
        x.forget();
        x.seen(3, 0, 2, 0);
        x.seen(3, 0, 2, 7);
        due("none by its own", x.first(0, 2), 0);
        due("none by its own", x.ask(0, 2), 0);
        x.forget();
        x.seen(0, 1, 0, 1);
        due("none by another's", x.ask(0, 2), 0);
    }

    private void askAnswers() {
        String chapter = "Promise 26: ask";
        of(chapter, "ASK. BAD.");
        Act ask = (x, n) -> x.ask(n[0], n[1]);
        dueRanges("ask", this::full, ask, BAD, to(0, 7), to(0, 3));
        dueRanges("ask", this::roomy, ask, BAD, to(0, 1), to(0, 3));
        due("ask where there is none", new DairyCollege().ask(0, 0), BAD);
    }

    private void creamEnds() {
        of(TERMS, "CREAM: each of FEEDS is by c sixteenths (0 to 16)");
        DairyCollege x = college("p4500", "r5400", 3, 0, 0);
        dueCream(x, 0, 19, 0, 0, 1);
        dueCream(x, 0, 19, 1, 1, 1);
        dueCream(x, 16, 19, 0, 1, 1);
        dueCream(x, 16, 19, 1, 0, 1);
        dueCream(x, 1, 19, 0, 1, 16);
        dueCream(x, 1, 19, 1, 15, 16);
        dueCream(x, 15, 19, 0, 15, 16);
        due("cream(17)", x.cream(17, 19, 0, 0), LONG_BAD);
        due("cream(-1)", x.cream(-1, 19, 0, 0), LONG_BAD);
        DairyCollege none = new DairyCollege();
        dueCream(none, 8, 0, 0, 0, 1);
        dueCream(college("p5000", ""), 8, 0, 0, 1, 1);
    }

    private void creamByItself() {
        of(TERMS, "by itself: the chance that the AYES have it in a QUESTION behind a TERM: a FRACTION.");
        dueCream(college("p3000", "r5000", 0, 0, 0, 1, 0, 0), 4, 1, 0, 1, 16);
        dueCream(college("p4000", "r5000", 0, 0, 0, 1, 0, 0), 4, 1, 0, 7, 16);
        dueCream(college("p4000;p4000", "r5000", 0, 0, 0, 0, 1, 0), 4, 1, 0, 1, 16);
        dueCream(college("p4000;p4000;p4000", "r5000", 0, 0, 0, 0, 1, 0, 0, 2, 0), 8, 0, 0, 1, 2);
        dueCream(college("p4000", "r5000", 0, 0, 0, 0, 7, 0, 0, 0, 7), 4, 0, 0, 1, 4);
        // Five of eight at least, each by a sixteenth: of one that is fed eight times, of eight that are fed once.
        long five = 56 * 15 * 15 * 15 + 28 * 15 * 15 + 8 * 15 + 1;
        DairyCollege x = college("p0000", "w5000", 0, 0, 0, 1, 0, 0, 2, 0, 0, 3, 0, 0, 4, 0, 0, 5, 0, 0, 6, 0, 0, 7, 0, 0);
        dueCream(x, 1, 19, 0, five, SETS);
        DairyCollege y = college("p4000;".repeat(8).substring(0, 47), "w5000",
            0, 0, 0, 1, 1, 0, 2, 2, 0, 3, 3, 0, 4, 4, 0, 5, 5, 0, 6, 6, 0, 7, 7, 0);
        dueCream(y, 1, 19, 0, five, SETS);
        long four = 70L * 15 * 15 * 15 * 15;
        long less = SETS - four - five;
        dueCream(y, 15, 19, 0, less, SETS);
    }

    private void creamTerm() {
        of("Promise 27: cream", "CREAM: above, below.");
        for (int term = 0; term < 20; term++) {
            DairyCollege x = college("p4000", "r5000;r3000", term, 0, 0);
            if (term > 0) dueCream(x, 4, term - 1, 0, 0, 1);
            dueCream(x, 4, term, 0, 1, 4);
            dueCream(x, 4, 19, 0, 1, 4);
        }
        // Fed of 5, later of 3: it says aye in the end, if the first has been and the second has not.
        DairyCollege y = college("p4000", "r5000;r3000", 3, 0, 0, 6, 0, 1);
        dueCream(y, 4, 5, 0, 1, 4);
        dueCream(y, 4, 6, 0, 3, 16);
    }

    private void creamAnswers() {
        of("Promise 27: cream", "BAD. (A refusal -x is the least long and x more.)");
        Act cream = (x, n) -> x.cream(n[0], n[1], n[2], n[3]);
        dueRanges("cream", this::full, cream, LONG_BAD, to(0, 16), to(0, 19), to(0, 3), to(0, 1));
        dueRanges("cream", DairyCollege::new, cream, LONG_BAD, to(0, 16), to(0, 19), to(0, 3), to(0, 1));
    }

    /** Lots by numbers without an end, of which 32 bits are kept by hand. */
    private static final class Lots {
        private BigInteger seed;

        Lots(int seed) {
            this.seed = BigInteger.valueOf(seed).mod(BigInteger.ONE.shiftLeft(32));
        }

        int next(int m) {
            BigInteger more = seed.multiply(BigInteger.valueOf(1103515245)).add(BigInteger.valueOf(12345));
            seed = more.mod(BigInteger.ONE.shiftLeft(32));
            return seed.shiftRight(16).mod(BigInteger.valueOf(m)).intValueExact();
        }
    }

    private static final int[] SEEDS = {0, 1, -1, 7, LEAST_INT, MOST_INT, -12345, 65535, 65536, -65536, 99991, -99991,
        1103515245, -1103515245, 0x40000000, 0x7fff0000, 0xc0000000, 123456789, -987654321, 31};

    private void lots() {
        String sentence = "LOTS of m: SEED becomes 1103515245 SEED and 12345, as ints that wrap; its upper 16 bits "
            + "as a number from 0 on, modulo m.";
        of(TERMS, sentence);
        for (int seed : SEEDS) {
            Lots lots = new Lots(seed);
            lots.next(20);
            int member = lots.next(5);
            int cow = lots.next(5);
            // The number of the cow, or of the member, is how often one is sick.
            DairyCollege x = college("p0000;p0000;p0000;p0000;p0000", "r0000;r9000;r9900;r9990;r9999");
            due("the cow by the seed " + seed, x.years(seed, 1, 1), cow);
            DairyCollege y = college("p9999;p9990;p9900;p9000;p0000", "r9999;r9999;r9999;r9999;r9999");
            due("the member by the seed " + seed, y.years(seed, 1, 1), member);
        }
        of(TERMS, "of each a LOT of 20 (its TERM), a LOT of MEMBERS, a LOT of COWS");
        String[] members = {"t0000", "p0918;t2736;i4554", EIGHT_MEMBERS};
        String[] cows = {"r2000;r5000", "w9090;r1234;r4321", EIGHT_COWS};
        for (int seed : SEEDS) {
            for (int k = 0; k < 3; k++) {
                for (int n = 0; n <= 8; n++) {
                    dueYears(college(members[k], cows[k], 0, 0, 0), college(members[k], cows[k]), seed, n);
                }
            }
        }
    }

    /** Years by a seed are as feeds told one by one to another. */
    private void dueYears(DairyCollege x, DairyCollege y, int seed, int n) {
        Lots lots = new Lots(seed);
        for (int i = 0; i < n; i++) {
            int term = lots.next(20);
            int member = lots.next(y.count(0));
            due("feed", y.feed(term, member, lots.next(y.count(1))), i + 1);
        }
        due("years(" + seed + ", " + n + ", 0)", x.years(seed, n, 0), y.count(5));
        due("years(" + seed + ", " + n + ", 1)", x.years(seed, n, 1), y.count(6));
    }

    private void yearsInPlace() {
        of(TERMS, "YEARS by a SEED: n FEEDS (0 to 8), in place of those told");
        DairyCollege x = college("p0000", "r9999");
        for (int told = 0; told <= 8; told++) {
            for (int n = 0; n <= 8; n++) {
                due("years of " + n + " where " + told + " are told", x.years(3, n, 1), 4 * n);
            }
            due("count(4), those told stay", x.count(4), told);
            due("count(6), those told stay", x.count(6), 4 * told);
            x.feed(0, 0, 0);
        }
        due("years(3, 9, 1)", x.years(3, 9, 1), BAD);
        due("years(3, -1, 1)", x.years(3, -1, 1), BAD);
        of(TERMS, "how many do not KNOW behind TERM 19; how often all are SICK together.");
        DairyCollege y = college("t0000", "w4900", 0, 0, 0);
        due("years(5, 1, 0)", y.years(5, 1, 0), 0);
        due("years(5, 1, 1)", y.years(5, 1, 1), 1);
        due("years(5, 2, 0)", y.years(5, 2, 0), 1);
        due("years(5, 2, 1)", y.years(5, 2, 1), 2);
        due("years(5, 8, 0)", y.years(5, 8, 0), 1);
    }

    private void yearsOfNobody() {
        of(TERMS, "(none where there are no MEMBERS, or no COWS)");
        String[][] texts = {{"", ""}, {"p0000", ""}, {"", "r9999"}, {"p0000;", "r9999"}, {"p0000", "r999"}};
        for (String[] text : texts) {
            for (int n = 0; n <= 8; n++) {
                due("years of " + n, college(text[0], text[1]).years(1, n, 0), 0);
                due("years of " + n, college(text[0], text[1]).years(1, n, 1), 0);
            }
        }
    }

    private void yearsAnswers() {
        String chapter = "Promise 28: years";
        of(chapter, "YEARS: how many do not KNOW (what = 0), how often SICK (1).");
        DairyCollege x = college("t0000;t0000", "w4999");
        due("sick thrice by each feed", x.years(0, 8, 1), 24);
        due("who do not know", x.years(0, 8, 0), 2);
        of(chapter, "BAD.");
        for (int seed : new int[] {LEAST_INT, MOST_INT, 0}) {
            dueRanges("years by " + seed, this::full, (y, n) -> y.years(seed, n[0], n[1]), BAD, to(0, 8), to(0, 1));
            dueRanges("years by " + seed, DairyCollege::new, (y, n) -> y.years(seed, n[0], n[1]), BAD, to(0, 8), to(0, 1));
        }
    }
}
