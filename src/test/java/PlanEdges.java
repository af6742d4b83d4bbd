/** Boundary cases of plans: promises 18 to 20, and what "Terms" says of them. */
final class PlanEdges extends Edges {
    PlanEdges(Check check, Document document) {
        super(check, document);
    }

    @Override
    void run() {
        rearFewest();
        rearBehindOthers();
        rearLeastRow();
        rearAnswers();
        carryBehindOthers();
        carryWhateverRoom();
        carryMost();
        carryNone();
        carryAnswers();
        spareFewest();
        spareLeastRow();
        spareAnswers();
    }

    private void rearFewest() {
        String sentence = "REAR of a MEMBER to a side (0 to 9) of a QUESTION: the fewest FEEDS more in TERM 19";
        of(TERMS, sentence);
        String cows = "r0000;r5000;r4000;r3000";
        dueRear(college("p0000", cows), 0, 0, 0, 0, NONE, NONE);
        dueRear(college("p0000", cows), 0, 0, 3, 1, 3, NONE);
        dueRear(college("p0000", "r0000;r5000;r4000"), 0, 0, 3, 2, 0, 2);
        dueRear(college("p9000", "r9000;r5000"), 0, 0, 5, 2, 0, 1);
        dueRear(college("i0000", "w7000"), 0, 0, 7, 1, 0, NONE);
        dueRear(college("i9000", "w2000"), 0, 0, 2, 1, 0, NONE);
        dueRear(college("i9000", "w2000"), 0, 0, 1, NONE, NONE, NONE);
        dueRear(college("i4000", "r9000;r0000"), 0, 0, 9, 1, 0, NONE);
        dueRear(college("i4000", "r9000;r0000"), 0, 0, 0, 1, 1, NONE);
        dueRear(college("p0000", ""), 0, 0, 1, NONE, NONE, NONE);
        dueRear(college("p0009", "r0005"), 0, 3, 7, NONE, NONE, NONE);
        dueRear(college("p0009", "r0006"), 0, 3, 7, 1, 0, NONE);
        of(TERMS, "(0 to 2), by which one can SPEAK it behind that");
        DairyCollege x = college("p0000", "r0000;r5000");
        dueRear(x, 0, 0, 5, NONE, NONE, NONE);
        due("three are too many: one is fed", x.feed(0, 0, 0), 1);
        dueRear(x, 0, 0, 5, 2, 0, 1);
        x.feed(1, 0, 0);
        dueRear(x, 0, 0, 5, 1, 1, NONE);
        x.feed(1, 0, 1);
        dueRear(x, 0, 0, 5, 0, NONE, NONE);
        due("count(4), none has been fed by asking", x.count(4), 3);
    }

    private void rearBehindOthers() {
        of(TERMS, "behind all others");
        DairyCollege x = college("p0000", "r4000;r0000", 19, 0, 1);
        dueRear(x, 0, 0, 4, 1, 0, NONE);
        DairyCollege y = college("t4000", "r2000;r6000;r8000", 19, 0, 1);
        dueRear(y, 0, 0, 8, 1, 2, NONE);
        dueRear(y, 0, 0, 2, 2, 1, 0);
    }

    private void rearLeastRow() {
        of(TERMS, "of like ones the least row of COWS");
        dueRear(college("p5000", "r4000;r6000;r7000;r8000"), 0, 0, 6, 1, 1, NONE);
        dueRear(college("p0000", "r4000;r0000;r0000;r4000"), 0, 0, 4, 2, 1, 0);
        // The row 0, 3 is less than 1, 2, though its second is more.
        dueRear(college("p0000", "r0000;r3000;r5000;r4000"), 0, 0, 4, 2, 0, 3);
        dueRear(college("p0000", "r9000;r9000;r9000;r9000;r9000;r9000;r4000;r0000"), 0, 0, 4, 2, 7, 6);
    }

    private void rearAnswers() {
        String chapter = "Promise 18: rear";
        of(chapter, "REAR: how many (i = NONE), the i-th (0, 1; NONE); NONE.");
        DairyCollege x = college("p0000", "r4000;r0000");
        int[][] wants = {{0, NONE, NONE}, {2, 1, 0}, {NONE, NONE, NONE}};
        int[] sides = {0, 4, 5};
        for (int k = 0; k < 3; k++) {
            for (int i = -1; i < 2; i++) {
                due("rear to " + sides[k] + ", " + i, x.rear(0, 0, sides[k], i), wants[k][i + 1]);
            }
        }
        of(chapter, "BAD.");
        Act rear = (y, n) -> y.rear(n[0], n[1], n[2], n[3]);
        dueRanges("rear", this::full, rear, BAD, to(0, 7), to(0, 3), to(0, 9), to(-1, 1));
        dueRanges("rear", this::roomy, rear, BAD, to(0, 1), to(0, 3), to(0, 9), to(-1, 1));
        due("rear where there is none", new DairyCollege().rear(0, 0, 0, NONE), BAD);
    }

    private void carryBehindOthers() {
        of(TERMS, "CARRY of a QUESTION in a TERM: the FEED more, behind all others of it");
        // Fed of 5 ahead of the other it is at 3 in the end; behind it, at 5.
        DairyCollege x = college("t4000", "r5000;r3000", 3, 0, 1);
        dueCarry(x, 2, 0, 0, 0, 0);
        dueCarry(x, 3, 0, 0, 0, 1);
        dueCarry(x, 19, 0, 0, 0, 1);
        DairyCollege y = college("t4000", "r5000;r3000", 19, 0, 1);
        dueCarry(y, 18, 0, 0, 0, 0);
        dueCarry(y, 19, 0, 0, 0, 1);
        DairyCollege z = college("t4000", "r5000;r3000", 0, 0, 1);
        dueCarry(z, 0, 0, 0, 0, 1);
        // From 3 it needs both, the one told and the one more.
        DairyCollege w = college("p3000", "r5000", 6, 0, 0);
        for (int term = 0; term < 20; term++) {
            dueCarry(w, term, 0, 0, 0, 1);
        }
    }

    private void carryWhateverRoom() {
        of(TERMS, "(whatever room)");
        DairyCollege x = college("i4000;p4000", "r5000");
        for (int n = 0; n <= 8; n++) {
            dueCarry(x, 5, 0, 1, 0, 1);
            due("count(4)", x.count(4), n);
            x.feed(5, 0, 0);
        }
    }

    private void carryMost() {
        of(TERMS, "by which most say aye behind TERM 19, of like ones the least MEMBER, then the least COW");
        dueCarry(college("p4000;p4000", "r3000;r5000;r6000"), 0, 0, 0, 1, 1);
        dueCarry(college("p5000;p4000", "r3000;r5000;r6000"), 0, 0, 1, 1, 2);
        dueCarry(college("p5000;p5000", "r9000;r8000"), 0, 0, 0, 0, 2);
        dueCarry(college("p0000;p0000", "r9000;r8000"), 0, 0, 0, 0, 0);
        // The least member comes ahead of the least cow.
        dueCarry(college("t4000;p4000", "r7000;r4000;r5000"), 0, 0, 0, 2, 1);
        // A feed more there is, even if there would be more ayes without it.
        dueCarry(college("p5000", "r4000"), 0, 0, 0, 0, 0);
        dueCarry(college("p5000;i4000", "r4000"), 0, 0, 1, 0, 1);
        // Behind term 19, not behind its own.
        dueCarry(college("t4000;t4000", "r5000;r3000", 7, 0, 1), 6, 0, 1, 0, 1);
        // What others come to in term 19 counts.
        dueCarry(college("p4000;p4000;p4000", "r5000", 19, 0, 0, 0, 1, 0), 0, 0, 2, 0, 3);
        dueCarry(college("p5000;p4000", "r5000;r4000", 19, 0, 1), 0, 0, 1, 0, 1);
        String last = "p4000;i0000;i0000;i0000;i0000;i0000;i0000;p4000";
        dueCarry(college(last, "r9000;r9000;r9000;r9000;r9000;r9000;r9000;r5000", 0, 0, 7), 0, 0, 7, 7, 2);
    }

    private void carryNone() {
        of(TERMS, "how many; NONE: there are no MEMBERS, or no COWS.");
        dueCarry(new DairyCollege(), 0, 0, NONE, NONE, NONE);
        dueCarry(college("p5555", ""), 0, 0, NONE, NONE, NONE);
        dueCarry(college("", "r5555"), 0, 0, NONE, NONE, NONE);
        dueCarry(college("p5555", "r5555;"), 0, 0, NONE, NONE, NONE);
        dueCarry(college("p0000", "r0000"), 0, 0, 0, 0, 0);
    }

    private void carryAnswers() {
        String chapter = "Promise 19: carry";
        of(chapter, "CARRY: the MEMBER (what = 0), the COW (1), how many (2); NONE.");
        dueCarry(college("p5000;i4000;p4000;p5000", "r4000;r5000"), 4, 0, 2, 1, 3);
        of(chapter, "BAD.");
        Act carry = (y, n) -> y.carry(n[0], n[1], n[2]);
        dueRanges("carry", this::full, carry, BAD, to(0, 19), to(0, 3), to(0, 2));
        dueRanges("carry", DairyCollege::new, carry, BAD, to(0, 19), to(0, 3), to(0, 2));
    }

    private void spareFewest() {
        of(TERMS, "SPARE: the fewest FEEDS (0 to 2) that had better not be, so that all KNOW behind TERM 19");
        DairyCollege x = college("t0000;t0000;t0000", "w4000", 0, 0, 0, 19, 1, 0, 0, 2, 0);
        dueSpare(x, 0, NONE, NONE);
        x.feed(19, 1, 0);
        dueSpare(x, 1, 1, NONE);
        x.feed(0, 0, 0);
        dueSpare(x, 2, 0, 1);
        x.feed(0, 2, 0);
        dueSpare(x, NONE, NONE, NONE);
        x.back();
        dueSpare(x, 2, 0, 1);
        due("count(4), none is undone by asking", x.count(4), 5);
        dueSpare(new DairyCollege(), 0, NONE, NONE);
        dueSpare(college("", "w4000", 0, 0, 0), 0, NONE, NONE);
        dueSpare(college("t0000", "w4000;r2000", 0, 0, 0, 1, 0, 0, 19, 0, 1), 0, NONE, NONE);
    }

    private void spareLeastRow() {
        of(TERMS, "of like ones the least row (each more than the one ahead)");
        dueSpare(college("i0000;t0000", "w4000", 0, 0, 0, 0, 1, 0, 0, 1, 0), 1, 1, NONE);
        dueSpare(college("t0000;t0000", "w4000", 0, 0, 0, 0, 0, 0, 0, 1, 0, 0, 1, 0), 2, 0, 2);
        dueSpare(college("t0000;t0000", "w4000", 5, 1, 0, 4, 0, 0, 3, 1, 0, 2, 0, 0), 2, 0, 1);
        dueSpare(college("t0000;i0000;t0000", "w4000", 0, 1, 0, 0, 2, 0, 0, 2, 0, 0, 1, 0, 0, 0, 0, 0, 0, 0), 2, 1, 4);
        // The row 0, 4 is less than 1, 3, though its second is more.
        dueSpare(college("t5000", "r9000;w6000", 1, 0, 0, 0, 0, 1, 0, 0, 0, 0, 0, 1, 1, 0, 0), 2, 0, 4);
        // One alone, though it is the last, is fewer than the first two.
        dueSpare(college("p0000", "w4000;r0000", 1, 0, 0, 1, 0, 0, 19, 0, 0), 1, 0, NONE);
        DairyCollege x = college("i0000;t0000", "w4000", 0, 0, 0, 0, 0, 0, 0, 0, 0, 0, 0, 0, 0, 0, 0, 0, 0, 0, 0, 1, 0, 0, 1, 0);
        dueSpare(x, 1, 6, NONE);
    }

    private void spareAnswers() {
        String chapter = "Promise 20: spare";
        of(chapter, "SPARE: how many (i = NONE), the i-th (0, 1; NONE); NONE.");
        DairyCollege x = college("t0000;t0000", "w4000", 0, 0, 0, 0, 0, 0, 0, 1, 0, 0, 1, 0);
        due("spare(NONE)", x.spare(NONE), 2);
        due("spare(0)", x.spare(0), 0);
        due("spare(1)", x.spare(1), 2);
        of(chapter, "BAD.");
        dueRanges("spare", this::full, (y, n) -> y.spare(n[0]), BAD, to(-1, 1));
        dueRanges("spare", DairyCollege::new, (y, n) -> y.spare(n[0]), BAD, to(-1, 1));
    }
}
