/** Boundary cases of what comes of feeds, term by term: promises 11 to 17, and what "Terms" says of them. */
final class TermEdges extends Edges {
    private static final String FOUR_OF_FOUR = "p5555;p5554;p5544;p5444";

    TermEdges(Check check, Document document) {
        super(check, document);
    }

    @Override
    void run() {
        holdsWithin();
        atFirst();
        stomachs();
        stoutest();
        byNumbers();
        thatIsThere();
        reach();
        warmed();
        sides();
        strides();
        noFarther();
        sick();
        oneMore();
        knows();
        ayes();
        moreThanHalf();
        behindATerm();
        hinges();
        puseyTerm();
        puseyMember();
        puseyQuestion();
        puseyNone();
        weaned();
        somebodySaysNo();
        weights();
        powerRows();
        lowestTerms();
        atAnswers();
        ableAnswers();
        houseAnswers();
        otherAnswers();
    }

    private void holdsWithin() {
        of(TERMS, "One HOLDS of each QUESTION a number 0 to 9");
        DairyCollege x = college("t1180;p1190;t0909", "r0090;r9090", 0, 0, 0, 1, 0, 0, 0, 1, 0, 1, 1, 0, 2, 2, 1);
        dueAt(x, 0, 0, 0, 0, 0, 9, 0);
        dueAt(x, 1, 0, 0, 0, 0, 9, 0);
        dueAt(x, 0, 1, 0, 0, 0, 9, 0);
        dueAt(x, 1, 1, 0, 0, 0, 9, 0);
        dueAt(college("p0909", "r0909", 0, 0, 0), 0, 0, 0, 0, 9, 0, 9);
    }

    private void atFirst() {
        of(TERMS, "can SPEAK all sides (0 to 9) from a LEAST to a MOST one, both what one HOLDS at first.");
        DairyCollege x = college("p0945;t9054;i5409", "");
        for (int m = 0; m < 3; m++) {
            for (int q = 0; q < 4; q++) {
                int first = x.member(m, q + 1);
                due("held", x.at(0, m, q, 0), first);
                due("least", x.at(0, m, q, 1), first);
                due("most", x.at(0, m, q, 2), first);
                due("rear to it", x.rear(m, q, first, NONE), 0);
            }
        }
        DairyCollege y = college("i5555", "r0909;r9090", 0, 0, 0, 1, 0, 1);
        dueAt(y, 0, 0, 1, 0, 5, 0, 5);
        dueAt(y, 0, 0, 2, 5, 9, 5, 9);
        dueAt(y, 1, 0, 1, 0, 0, 0, 0);
        dueAt(y, 1, 0, 2, 9, 9, 9, 9);
    }

    private void stomachs() {
        of(TERMS, "The STOMACH is 2 of a tender one, 3 of a plain one, 5 of iron at first");
        DairyCollege x = college("t0000;p0000;i0000", "");
        due("tender", x.able(0, 0, 0), 2);
        due("plain", x.able(0, 1, 0), 3);
        due("iron", x.able(0, 2, 0), 5);
    }

    private void stoutest() {
        of(TERMS, "9 at most.");
        String[] sorts = {"t5555", "p5555", "i5555"};
        int[] stomachs = {2, 3, 5};
        for (int k = 0; k < 3; k++) {
            DairyCollege x = college(sorts[k], "r5555");
            for (int n = 0; n < 8; n++) {
                x.feed(n, 0, 0);
            }
            for (int n = 0; n < 8; n++) {
                due(sorts[k] + ", fed " + (n + 1) + " times", x.able(n, 0, 0), Math.min(9, stomachs[k] + n + 1));
            }
        }
    }

    /** A tender one cannot stomach 5 unless it is fed of 2 ahead of it. */
    private void byNumbers() {
        of(TERMS, "In a TERM its FEEDS are done, one by one, by their numbers");
        String cows = "r2000;r5000";
        due("2, then 5", college("t0000", cows, 4, 0, 0, 4, 0, 1).able(4, 0, 1), 0);
        due("5, then 2", college("t0000", cows, 4, 0, 1, 4, 0, 0).able(4, 0, 1), 1);
        due("5 told first, of a later term", college("t0000", cows, 5, 0, 1, 4, 0, 0).able(5, 0, 1), 0);
        due("2 told first, of a later term", college("t0000", cows, 5, 0, 0, 4, 0, 1).able(5, 0, 1), 1);
        due("of the first term and the last", college("t0000", cows, 19, 0, 1, 0, 0, 0).able(19, 0, 1), 0);
        DairyCollege x = college("t0000;t0000", cows, 4, 0, 1, 4, 1, 0, 4, 0, 0, 4, 1, 1);
        due("among another's", x.able(4, 0, 1), 1);
        due("among another's", x.able(4, 1, 1), 0);
    }

    private void thatIsThere() {
        of(TERMS, "(of a MEMBER, a COW that is there)");
        DairyCollege x = college("p5555;p5555", "r6666", 0, 2, 0, 0, 7, 0, 0, 0, 1, 0, 1, 7);
        for (int m = 0; m < 2; m++) {
            dueAt(x, 19, m, 0, 5, 5, 5, 5);
            dueAt(x, 19, m, 2, 5, 5, 5, 5);
            dueAble(x, 19, m, 3, 0, 1);
        }
        due("count(6)", x.count(6), 0);
        due("at(19, 2, 0, 0)", x.at(19, 2, 0, 0), BAD);
        retype(x, 0, "p5555;p5555;p5555");
        dueAt(x, 0, 2, 0, 6, 6, 6, 6);
        retype(x, 1, "r6666;r4444");
        dueAt(x, 0, 0, 0, 4, 4, 4, 4);
        dueAt(x, 0, 1, 0, 5, 5, 5, 5);
    }

    /** From what is held to an argument so far away, upwards and downwards: how often sick. */
    private void dueReach(String sort, char cow, int far, int sick) {
        for (int q = 0; q < 4; q++) {
            StringBuilder low = new StringBuilder("0000");
            StringBuilder high = new StringBuilder("0000");
            high.setCharAt(q, (char) ('0' + far));
            due(sort + " up by " + far, college(sort + low, cow + high.toString(), 0, 0, 0).able(0, 0, 1), sick);
            due(sort + " down by " + far, college(sort + high, cow + low.toString(), 0, 0, 0).able(0, 0, 1), sick);
        }
    }

    private void reach() {
        of(TERMS, "if the ARGUMENT is no farther from what one HOLDS than the STOMACH");
        dueReach("t", 'r', 2, 0);
        dueReach("t", 'r', 3, 1);
        dueReach("p", 'r', 3, 0);
        dueReach("p", 'r', 4, 1);
        dueReach("i", 'r', 5, 0);
        dueReach("i", 'r', 6, 1);
        dueReach("i", 'r', 0, 0);
        DairyCollege x = college("p0000", "r4000;r0000", 0, 0, 0, 1, 0, 1, 2, 0, 0);
        due("not yet", x.able(0, 0, 1), 1);
        due("with a stomach 1 more", x.able(2, 0, 1), 1);
        DairyCollege y = college("p0000", "r3000;r5000", 0, 0, 0, 0, 0, 1);
        due("from what one holds by then", y.able(0, 0, 1), 0);
        due("it can speak it", y.at(0, 0, 0, 2), 5);
    }

    private void warmed() {
        of(TERMS, "(2 more, if it is warmed)");
        dueReach("t", 'w', 4, 0);
        dueReach("t", 'w', 5, 1);
        dueReach("p", 'w', 5, 0);
        dueReach("p", 'w', 6, 1);
        dueReach("i", 'w', 7, 0);
        dueReach("i", 'w', 8, 1);
        due("the stomach itself is not 2 more", college("p0000", "w0000", 0, 0, 0).able(0, 0, 0), 4);
        due("nor for the next one", college("p0000", "w5000;r5000", 0, 0, 0, 1, 0, 1).able(1, 0, 1), 0);
        due("nor for the next one", college("p0000", "w5000;r6000", 0, 0, 0, 1, 0, 1).able(1, 0, 1), 1);
    }

    private void sides() {
        of(TERMS, "one can SPEAK that side from then on, too (LEAST, MOST become it, if it is beyond them)");
        DairyCollege x = college("i5555", "r7346;r6555;r3755;r5444", 2, 0, 0, 3, 0, 1, 4, 0, 2, 5, 0, 3);
        dueAt(x, 1, 0, 1, 5, 5, 5, 5);
        dueAt(x, 1, 0, 2, 5, 5, 5, 5);
        dueAt(x, 2, 0, 1, 5, 3, 4, 5);
        dueAt(x, 2, 0, 2, 7, 5, 5, 6);
        dueAt(x, 3, 0, 1, 5, 3, 4, 5);
        dueAt(x, 3, 0, 2, 7, 5, 5, 6);
        dueAt(x, 4, 0, 1, 3, 3, 4, 5);
        dueAt(x, 4, 0, 2, 7, 7, 5, 6);
        dueAt(x, 5, 0, 1, 3, 3, 4, 4);
        dueAt(x, 19, 0, 2, 7, 7, 5, 6);
        DairyCollege y = college("t5555", "r7355;r5555", 0, 0, 0, 1, 0, 1);
        dueAt(y, 1, 0, 0, 5, 5, 5, 5);
        dueAt(y, 1, 0, 1, 5, 3, 5, 5);
        dueAt(y, 1, 0, 2, 7, 5, 5, 5);
    }

    private void strides() {
        of(TERMS, "what one HOLDS goes towards it, a plain one's by 1, a tender one's by 2, iron not at all");
        dueAt(college("p5555", "w8290", 0, 0, 0), 0, 0, 0, 6, 4, 6, 4);
        dueAt(college("t5555", "w8291", 0, 0, 0), 0, 0, 0, 7, 3, 7, 3);
        dueAt(college("i5555", "w8290", 0, 0, 0), 0, 0, 0, 5, 5, 5, 5);
        dueAt(college("t5555", "r7373", 0, 0, 0), 0, 0, 0, 7, 3, 7, 3);
        dueAt(college("p5555", "r6464", 0, 0, 0), 0, 0, 0, 6, 4, 6, 4);
    }

    private void noFarther() {
        of(TERMS, "but no farther than it is there");
        dueAt(college("t5555", "r6455", 0, 0, 0), 0, 0, 0, 6, 4, 5, 5);
        dueAt(college("t0918", "r1809", 0, 0, 0), 0, 0, 0, 1, 8, 0, 9);
        dueAt(college("p5555", "r5555", 0, 0, 0), 0, 0, 0, 5, 5, 5, 5);
    }

    private void sick() {
        of(TERMS, "else one is SICK once more.");
        DairyCollege x = college("p0000", "r4040;r4444;r3333", 0, 0, 0, 1, 0, 1, 2, 0, 1, 3, 0, 2);
        due("by two of four", x.able(0, 0, 1), 2);
        dueAt(x, 0, 0, 0, 0, 0, 0, 0);
        due("by four of four", x.able(1, 0, 1), 6);
        due("once more", x.able(2, 0, 1), 10);
        dueAt(x, 2, 0, 0, 0, 0, 0, 0);
        dueAt(x, 2, 0, 1, 0, 0, 0, 0);
        dueAt(x, 2, 0, 2, 0, 0, 0, 0);
        due("by none", x.able(3, 0, 1), 10);
        DairyCollege y = college("p0000", "r9999", 0, 0, 0, 0, 0, 0, 0, 0, 0, 0, 0, 0, 0, 0, 0, 0, 0, 0, 0, 0, 0, 0, 0, 0);
        due("eight times by four", y.able(0, 0, 1), 32);
    }

    private void oneMore() {
        of(TERMS, "Behind a FEED of which one was not SICK at all the STOMACH is 1 more.");
        for (int q = 0; q < 4; q++) {
            StringBuilder cow = new StringBuilder("r0000");
            cow.setCharAt(q + 1, '4');
            DairyCollege x = college("p0000", cow + ";r0000", 0, 0, 0, 1, 0, 1, 2, 0, 0);
            due("sick of question " + q + " alone", x.able(0, 0, 0), 3);
            due("not sick", x.able(1, 0, 0), 4);
            due("now it can", x.able(2, 0, 0), 5);
        }
        DairyCollege y = college("p0000", "r4000;r0000", 3, 0, 0, 3, 0, 1);
        due("sick of another feed of the term", y.able(3, 0, 0), 4);
        DairyCollege z = college("p0000;p0000", "r4000;r0000", 3, 0, 0, 3, 1, 1);
        due("another one sick", z.able(3, 1, 0), 4);
        due("another one not sick", z.able(3, 0, 0), 3);
    }

    private void knows() {
        of(TERMS, "One KNOWS what one held, if of each QUESTION what one HOLDS is no farther than 2 from that.");
        for (int q = 0; q < 4; q++) {
            StringBuilder up = new StringBuilder("w5555");
            up.setCharAt(q + 1, '9');
            StringBuilder down = new StringBuilder("w5555");
            down.setCharAt(q + 1, '1');
            DairyCollege x = college("p5555;p5555", up + ";" + down, 0, 0, 0, 1, 0, 0, 2, 0, 0, 0, 1, 1, 1, 1, 1, 2, 1, 1);
            for (int m = 0; m < 2; m++) {
                due("unlike by 1", x.able(0, m, 2), 1);
                due("unlike by 2", x.able(1, m, 2), 1);
                due("unlike by 3 of question " + q, x.able(2, m, 2), 0);
            }
        }
        DairyCollege y = college("t0000", "w4000;r2000", 0, 0, 0, 1, 0, 0, 2, 0, 1);
        due("unlike by 4", y.able(1, 0, 2), 0);
        due("unlike by 2 again", y.able(2, 0, 2), 1);
        DairyCollege z = college("t5555", "w7733;w9911", 0, 0, 0, 1, 0, 1);
        due("of all questions by 2", z.able(0, 0, 2), 1);
        due("of all questions by 4", z.able(1, 0, 2), 0);
    }

    private void ayes() {
        of(TERMS, "In a DIVISION of a QUESTION those who HOLD 5 or more say aye");
        for (int held = 0; held <= 9; held++) {
            DairyCollege x = college("p" + held + "000", "");
            due("at, one that holds " + held, x.at(0, 0, 0, 3), held >= 5 ? 1 : 0);
            due("house, one that holds " + held, x.house(0, 0, 0), held >= 5 ? 1 : 0);
        }
        DairyCollege y = college("p4500", "r5400", 3, 0, 0);
        due("becomes 5", y.at(3, 0, 0, 3), 1);
        due("becomes 4", y.at(3, 0, 1, 3), 0);
    }

    private void moreThanHalf() {
        of(TERMS, "the AYES have it, if they are more than half of all.");
        for (int n = 0; n <= 8; n++) {
            for (int ayes = 0; ayes <= n; ayes++) {
                StringBuilder members = new StringBuilder();
                for (int m = 0; m < n; m++) {
                    members.append(m > 0 ? ";" : "").append(m < ayes ? "p5000" : "p4000");
                }
                DairyCollege x = college(members.toString(), "");
                boolean haveIt = ayes > n - ayes;
                due(ayes + " of " + n, x.house(0, 0, 1), haveIt ? 1 : 0);
                due(ayes + " of " + n + " say aye", x.house(0, 0, 0), ayes);
                dueCream(x, 8, 0, 0, haveIt ? 1 : 0, 1);
            }
        }
    }

    private void behindATerm() {
        of(TERMS, "Behind a TERM of a MEMBER and a QUESTION: what is HELD; the LEAST, the MOST side; whether it says aye.");
        for (int term = 0; term < 20; term++) {
            DairyCollege x = college("p4444", "r5555", term, 0, 0);
            if (term > 0) {
                due("ahead of term " + term, x.at(term - 1, 0, 0, 0), 4);
                due("ahead of term " + term, x.at(term - 1, 0, 0, 2), 4);
                due("ahead of term " + term, x.at(term - 1, 0, 0, 3), 0);
                due("ahead of term " + term, x.house(term - 1, 0, 0), 0);
            }
            due("behind term " + term, x.at(term, 0, 0, 0), 5);
            due("behind term " + term, x.at(term, 0, 0, 2), 5);
            due("behind term " + term, x.at(term, 0, 0, 3), 1);
            due("behind term " + term, x.house(term, 0, 0), 1);
            due("behind term 19", x.at(19, 0, 0, 0), 5);
        }
        of(TERMS, "Of a MEMBER: the STOMACH; how often SICK; whether it KNOWS.");
        for (int term = 0; term < 20; term++) {
            DairyCollege x = college("t0000", "w4000;r9000", term, 0, 0, term, 0, 0, term, 0, 1);
            if (term > 0) dueAble(x, term - 1, 0, 2, 0, 1);
            dueAble(x, term, 0, 4, 1, 0);
            dueAble(x, 19, 0, 4, 1, 0);
        }
    }

    private void hinges() {
        of(TERMS, "HINGES: MEMBERS each of which, by saying the other thing alone, would turn it whether the AYES have it, as bits.");
        DairyCollege x = college(FOUR_OF_FOUR, "");
        due("four of four", x.house(0, 0, 2), 0);
        due("three of four: each aye", x.house(0, 1, 2), 7);
        due("two of four: each no", x.house(0, 2, 2), 12);
        due("one of four", x.house(0, 3, 2), 0);
        DairyCollege y = college("p5550;p5500;p5000", "");
        due("three of three", y.house(0, 0, 2), 0);
        due("two of three: each aye", y.house(0, 1, 2), 3);
        due("one of three: each no", y.house(0, 2, 2), 6);
        due("none of three", y.house(0, 3, 2), 0);
        DairyCollege z = college("p5000", "");
        due("one of one", z.house(0, 0, 2), 1);
        due("none of one", z.house(0, 1, 2), 1);
        DairyCollege w = college("p5500;p5000", "");
        due("two of two: either", w.house(0, 0, 2), 3);
        due("one of two: the no", w.house(0, 1, 2), 2);
        due("none of two", w.house(0, 2, 2), 0);
        DairyCollege v = college("p0500;p0500;p0500;p0500;p5500;p5000;p5000;p5000", "");
        due("four of eight: each no, of the first ones", v.house(0, 0, 2), 15);
        due("five of eight: each aye", v.house(0, 1, 2), 31);
        due("none at all", new DairyCollege().house(0, 0, 2), 0);
    }

    private void puseyTerm() {
        of(TERMS, "PUSEY: the first TERM behind which somebody can SPEAK all ten sides of a QUESTION");
        String cows = "r0000;r9999";
        duePusey(college("i4444", cows, 0, 0, 0, 0, 0, 1), 0, 0, 0);
        duePusey(college("i4444", cows, 2, 0, 0, 7, 0, 1), 7, 0, 0);
        duePusey(college("i4444", cows, 19, 0, 0, 19, 0, 1), 19, 0, 0);
        duePusey(college("i4444;i4444", cows, 6, 0, 0, 6, 0, 1, 5, 1, 0, 5, 1, 1), 5, 1, 0);
        duePusey(college("i4444", cows, 3, 0, 0, 3, 0, 1, 8, 0, 0, 8, 0, 1), 3, 0, 0);
    }

    private void puseyMember() {
        of(TERMS, "the least such MEMBER;");
        String cows = "r0000;r9999";
        duePusey(college("i4444;i4444", cows, 6, 1, 0, 6, 1, 1, 6, 0, 0, 6, 0, 1), 6, 0, 0);
        duePusey(college("i4444;i4444;i4444", cows, 6, 2, 0, 6, 2, 1, 6, 1, 0, 6, 1, 1), 6, 1, 0);
        duePusey(college(("i4444;".repeat(8)).substring(0, 47), cows, 6, 7, 0, 6, 7, 1), 6, 7, 0);
        DairyCollege x = college("i4444;i4444", "r4404;r4494;r0444;r9444", 6, 0, 0, 6, 0, 1, 6, 1, 2, 6, 1, 3);
        duePusey(x, 6, 0, 2);
    }

    private void puseyQuestion() {
        of(TERMS, "the least QUESTION; NONE.");
        for (int q = 0; q < 4; q++) {
            StringBuilder low = new StringBuilder("r4444");
            StringBuilder high = new StringBuilder("r4444");
            for (int k = q; k < 4; k++) {
                low.setCharAt(k + 1, '0');
                high.setCharAt(k + 1, '9');
            }
            duePusey(college("i4444", low + ";" + high, 1, 0, 0, 4, 0, 1), 4, 0, q);
        }
    }

    private void puseyNone() {
        of("Promise 14: pusey", "PUSEY: the TERM (what = 0), the MEMBER (1), the QUESTION (2); NONE.");
        duePusey(new DairyCollege(), NONE, NONE, NONE);
        duePusey(college("i4444", "r0000;r8888", 0, 0, 0, 0, 0, 1), NONE, NONE, NONE);
        duePusey(college("i5555", "r1111;r9999", 0, 0, 0, 0, 0, 1), NONE, NONE, NONE);
        duePusey(college("i4555", "r0999;r4111", 0, 0, 0, 0, 0, 1), NONE, NONE, NONE);
        duePusey(college("i5555", "r0999;r5111", 0, 0, 0, 0, 0, 1), NONE, NONE, NONE);
        of("Promise 14: pusey", "BAD.");
        dueRanges("pusey", this::full, (x, n) -> x.pusey(n[0]), BAD, to(0, 2));
    }

    private void weaned() {
        String sentence = "WEANED: MEMBERS that do not KNOW behind TERM 19, as bits.";
        of(TERMS, sentence);
        due("none at all", new DairyCollege().weaned(), 0);
        String eight = "t0000;".repeat(8).substring(0, 47);
        due("none fed", college(eight, "w4000").weaned(), 0);
        for (int m = 0; m < 8; m++) {
            DairyCollege x = college(eight, "w4000", 18, m, 0);
            due("by 2", x.weaned(), 0);
            x.feed(19, m, 0);
            due("by 4, in term 19", x.weaned(), 1 << m);
        }
        due("known again by term 19", college("t0000", "w4000;r2000", 0, 0, 0, 1, 0, 0, 19, 0, 1).weaned(), 0);
        of("Promise 15: weaned", "WEANED, as bits.");
        DairyCollege x = college(eight, "w4000", 0, 0, 0, 0, 0, 0, 0, 3, 0, 0, 3, 0, 0, 7, 0, 0, 7, 0);
        due("three of eight", x.weaned(), 1 + 8 + 128);
    }

    private void somebodySaysNo() {
        String sentence = "NO of a QUESTION: the least MEMBER that does not say aye behind TERM 19, if the AYES have it; NONE.";
        of(TERMS, sentence);
        DairyCollege x = college("p5545;p5444;p5554;p5554", "r5555", 19, 1, 0);
        due("all say aye", x.says(0), NONE);
        due("all say aye behind term 19", x.says(1), NONE);
        due("the first", x.says(2), 0);
        due("two of four do not", x.says(3), NONE);
        x.back();
        due("one does not, had it not been fed", x.says(1), 1);
        due("half do not, had it not been fed", x.says(2), NONE);
        DairyCollege y = college("p5000;p5000;p5000;p5000;p5000;p5000;p4000;p4000", "");
        due("two do not: the least", y.says(0), 6);
        due("the last alone", college("p5000;p5000;p4000", "").says(0), 2);
        due("none at all", new DairyCollege().says(0), NONE);
        of("Promise 16: says", "NO; NONE. BAD.");
        dueRanges("says", this::full, (z, n) -> z.says(n[0]), BAD, to(0, 3));
    }

    private void weights() {
        of(TERMS, "WEIGHT of a MEMBER in a QUESTION is how many sides it can SPEAK behind TERM 19.");
        DairyCollege x = college("i4000;p4000", "r0000;r9000;r4000");
        duePower(x, 0, 0, 1, 2);
        x.feed(19, 0, 2);
        duePower(x, 0, 0, 1, 2);
        x.feed(19, 0, 0);
        duePower(x, 0, 0, 1, 1);
        duePower(x, 1, 0, 0, 1);
        duePower(x, 1, 1, 1, 2);
        // Of 10 sides one outweighs seven of 1; of 9 and of 8 too; of 7 it needs one more.
        String eight = "i4000;" + "p4000;".repeat(7).substring(0, 41);
        duePower(college(eight, "r0000;r9000", 0, 0, 0, 1, 0, 1), 0, 0, 1, 1);
        duePower(college(eight, "r0000;r8000", 0, 0, 0, 1, 0, 1), 0, 0, 1, 1);
        duePower(college(eight, "r0000;r7000", 0, 0, 0, 1, 0, 1), 0, 0, 1, 1);
        duePower(college(eight, "r0000;r6000", 0, 0, 0, 1, 0, 1), 0, 0, 7, 8);
        duePower(college(eight, "r0000;r6000", 0, 0, 0, 1, 0, 1), 7, 0, 1, 56);
    }

    private void powerRows() {
        String sentence = "POWER: in which part of all rows of all MEMBERS it is the one with whom those of the row up to it "
            + "first weigh more than half of all: a FRACTION.";
        of(TERMS, sentence);
        // Weights of 2, 1, 1: it is the one unless it comes first, since 2 of 4 is half and no more.
        DairyCollege x = college("p4000;p4000;p4000", "r5000", 0, 0, 0);
        duePower(x, 0, 0, 2, 3);
        duePower(x, 1, 0, 1, 6);
        duePower(x, 2, 0, 1, 6);
        duePower(college("p4000", ""), 0, 0, 1, 1);
        DairyCollege y = college("p4000;".repeat(8).substring(0, 47), "");
        for (int m = 0; m < 8; m++) {
            duePower(y, m, 3, 1, 8);
        }
        // Weights of 4, 3, 2, 1: more than 5 of 10.
        DairyCollege z = college("p4000;p4000;p4000;i4000", "r5000;r6000;r7000", 0, 0, 2, 0, 1, 1, 0, 2, 0);
        duePower(z, 0, 0, 5, 12);
        duePower(z, 1, 0, 1, 4);
        duePower(z, 2, 0, 1, 4);
        duePower(z, 3, 0, 1, 12);
        String chapter = "Promise 17: power";
        of(chapter, "POWER: above, below.");
        due("above", x.power(0, 0, 0), 2);
        due("below", x.power(0, 0, 1), 3);
        of(chapter, "BAD. (A refusal -x is the least long and x more.)");
        dueRanges("power", this::full, (w, n) -> w.power(n[0], n[1], n[2]), LONG_BAD, to(0, 7), to(0, 3), to(0, 1));
        dueRanges("power", this::roomy, (w, n) -> w.power(n[0], n[1], n[2]), LONG_BAD, to(0, 1), to(0, 3), to(0, 1));
        due("power where there is none", new DairyCollege().power(0, 0, 0), LONG_BAD);
    }

    private void lowestTerms() {
        of(TERMS, "FRACTIONS are told in lowest terms, above and below (0 by 1).");
        DairyCollege x = college("p4000", "r5000", 0, 0, 0);
        for (int c = 0; c <= 16; c++) {
            int below = c == 0 ? 1 : 16 / Math.min(16, c & -c);
            dueCream(x, c, 0, 0, c * below / 16, below);
        }
        duePower(college("p4000;p4000;p4000", ""), 0, 0, 1, 3);
        duePower(college("i4000;p4000", "r0000", 0, 0, 0), 1, 0, 0, 1);
    }

    private void atAnswers() {
        String chapter = "Promise 11: at";
        of(chapter, "What is HELD (what = 0), LEAST (1), MOST (2), whether it says aye (3: 1, 0).");
        DairyCollege x = college("i5000", "r3000;r8000", 0, 0, 0, 0, 0, 1);
        int[] wants = {5, 3, 8, 1};
        for (int what = 0; what < 4; what++) {
            due("at(0, 0, 0, " + what + ")", x.at(0, 0, 0, what), wants[what]);
            due("at(0, 0, 1, " + what + ")", x.at(0, 0, 1, what), 0);
        }
        of(chapter, "BAD.");
        Act at = (y, n) -> y.at(n[0], n[1], n[2], n[3]);
        dueRanges("at", this::full, at, BAD, to(0, 19), to(0, 7), to(0, 3), to(0, 3));
        dueRanges("at", this::roomy, at, BAD, to(0, 19), to(0, 1), to(0, 3), to(0, 3));
        due("at where there is none", new DairyCollege().at(0, 0, 0, 0), BAD);
    }

    private void ableAnswers() {
        String chapter = "Promise 12: able";
        of(chapter, "The STOMACH (what = 0), how often SICK (1), whether it KNOWS (2: 1, 0).");
        dueAble(college("t0000", "w4000;r9999", 0, 0, 0, 0, 0, 0, 0, 0, 1), 0, 0, 4, 4, 0);
        dueAble(college("i0000", "r9999", 0, 0, 0, 0, 0, 0), 0, 0, 5, 8, 1);
        of(chapter, "BAD.");
        Act able = (y, n) -> y.able(n[0], n[1], n[2]);
        dueRanges("able", this::full, able, BAD, to(0, 19), to(0, 7), to(0, 2));
        dueRanges("able", this::roomy, able, BAD, to(0, 19), to(0, 1), to(0, 2));
        due("able where there is none", new DairyCollege().able(0, 0, 0), BAD);
    }

    private void houseAnswers() {
        String chapter = "Promise 13: house";
        of(chapter, "How many say aye (what = 0), whether the AYES have it (1: 1, 0), HINGES (2), as bits.");
        DairyCollege x = college(FOUR_OF_FOUR, "");
        dueHouse(x, 0, 0, 4, 1, 0);
        dueHouse(x, 0, 1, 3, 1, 7);
        dueHouse(x, 19, 2, 2, 0, 12);
        dueHouse(x, 19, 3, 1, 0, 0);
        dueHouse(new DairyCollege(), 0, 0, 0, 0, 0);
        of(chapter, "BAD.");
        dueRanges("house", this::full, (y, n) -> y.house(n[0], n[1], n[2]), BAD, to(0, 19), to(0, 3), to(0, 2));
        dueRanges("house", DairyCollege::new, (y, n) -> y.house(n[0], n[1], n[2]), BAD, to(0, 19), to(0, 3), to(0, 2));
    }

    private void otherAnswers() {
        of(TERMS, "Of a QUESTION: how many say aye; whether the AYES have it");
        DairyCollege x = college("p4000;p4000;p5000", "r5000;r4000", 3, 0, 0, 7, 0, 1);
        dueHouse(x, 2, 0, 1, 0, 3);
        dueHouse(x, 3, 0, 2, 1, 5);
        dueHouse(x, 7, 0, 1, 0, 3);
    }
}
