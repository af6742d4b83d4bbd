/** Boundary cases of texts, members, cows and feeds: promises 1 to 10, and what "What it is" and "Terms" say of them. */
final class TextEdges extends Edges {
    private static final String IS = "What it is";
    private static final int LONGEST = 47;

    TextEdges(Check check, Document document) {
        super(check, document);
    }

    @Override
    void run() {
        newObject();
        lastCall();
        longest(0, IS, "MEMBERS are a text of up to 47 bytes (text 0)");
        longest(1, TERMS, "COWS are a text of up to 47 bytes (text 1)");
        eightMembers();
        eightCows();
        between(0, IS, EIGHT_MEMBERS);
        between(1, TERMS, EIGHT_COWS);
        letters(0, "pti", IS, "p (plain), t (tender) or i (iron)");
        letters(1, "wr", TERMS, "w (warmed, through a calf) or r (raw)");
        figures(0, "t", IS, "and four figures 0 to 9, what one holds at first of QUESTIONS 0 to 3.");
        figures(1, "r", TERMS, "and four figures 0 to 9, the ARGUMENT in its milk of each QUESTION.");
        firstByte();
        emptyIsWell();
        notEnded();
        ninth();
        asIfEmpty();
        typed();
        wiped();
        undone();
        faultAnswers();
        memberAnswers();
        cowAnswers();
        terms();
        eightFeeds();
        fedOf();
        fedMore();
        backAnswers();
        readWhole();
        readRefused();
        readRefusals();
    }

    private void newObject() {
        String chapter = "Promise 1: A new object";
        of(chapter, "No MEMBERS");
        DairyCollege x = new DairyCollege();
        due("count(0)", x.count(0), 0);
        due("count(2)", x.count(2), 0);
        due("member(0, 0)", x.member(0, 0), BAD);
        due("undo(0)", x.undo(0), NOT);
        of(chapter, "no COWS");
        due("count(1)", x.count(1), 0);
        due("count(3)", x.count(3), 0);
        due("cow(0, 0)", x.cow(0, 0), BAD);
        due("undo(1)", x.undo(1), NOT);
        of(chapter, "no FEEDS");
        due("count(4)", x.count(4), 0);
        due("never()", x.never(), 0);
        due("back()", x.back(), NOT);
        of(chapter, "all SHEETS are LOST.");
        for (int s = 0; s < 4; s++) {
            due("read(" + s + ")", x.read(s), NULL);
            due("lose(" + s + ")", x.lose(s), NULL);
        }
        of(chapter, "No MEMBERS, no COWS, no FEEDS; all SHEETS are LOST.");
        DairyCollege full = full();
        due("count(0) of another one", full.count(0), 8);
        due("count(0)", new DairyCollege().count(0), 0);
        due("count(7)", new DairyCollege().count(7), 0);
    }

    private void lastCall() {
        of(IS, "An object is used for at most 512 calls after it has been made");
        DairyCollege x = new DairyCollege();
        for (int call = 0; call < 256; call++) {
            due("type", x.type(call & 1, 'p'), 1);
            if (call < 255) due("undo", x.undo(call & 1), 0);
        }
        due("the 512th", x.undo(1), 0);
    }

    private void longest(int text, String chapter, String sentence) {
        of(chapter, sentence);
        DairyCollege x = new DairyCollege();
        for (int n = 1; n <= LONGEST; n++) {
            due("type, byte " + n, x.type(text, n), n);
        }
        due("type, byte 48", x.type(text, 48), FULL);
        due("its bytes", x.count(2 + text), LONGEST);
        due("the other's bytes", x.count(3 - text), 0);
        due("the other has room", x.type(1 - text, 48), 1);
        due("undo", x.undo(text), LONGEST - 1);
        due("type, byte 47 again", x.type(text, 48), LONGEST);
        due("type, byte 48 again", x.type(text, 48), FULL);
        due("wipe", x.wipe(text), LONGEST);
        due("type behind wipe", x.type(text, 48), 1);
    }

    private void eightMembers() {
        of(IS, "8 at most (0 on)");
        DairyCollege x = college(EIGHT_MEMBERS, "");
        due("count(0)", x.count(0), 8);
        due("member(0, 1), the first", x.member(0, 1), 4);
        due("member(7, 0), the eighth", x.member(7, 0), 1);
        due("member(7, 4), the eighth", x.member(7, 4), 9);
        due("member(8, 0), a ninth", x.member(8, 0), BAD);
        due("at(0, 7, 0, 0)", x.at(0, 7, 0, 0), 4);
        due("at(0, 8, 0, 0)", x.at(0, 8, 0, 0), BAD);
        due("one alone", college("i9999", "").count(0), 1);
    }

    private void eightCows() {
        of(TERMS, "8 at most (0 on), with ; between them: w");
        DairyCollege x = college("i5555", EIGHT_COWS, 0, 0, 7);
        due("count(1)", x.count(1), 8);
        due("cow(0, 1), the first", x.cow(0, 1), 5);
        due("cow(7, 0), the eighth", x.cow(7, 0), 1);
        due("cow(7, 4), the eighth", x.cow(7, 4), 5);
        due("cow(8, 0), a ninth", x.cow(8, 0), BAD);
        dueAt(x, 0, 0, 1, 2, 3, 4, 5);
        due("one alone", college("", "r0000").count(1), 1);
    }

    private void dueFault(int text, String s, int want) {
        DairyCollege x = new DairyCollege();
        typeAll(x, text, s);
        due("fault of '" + s + "'", x.fault(text), want);
        due("things of '" + s + "'", x.count(text), want == NONE ? (s.length() + 1) / 6 : 0);
    }

    private void between(int text, String chapter, String eight) {
        of(chapter, "with ; between them");
        String one = eight.substring(0, 5);
        String two = eight.substring(6, 11);
        dueFault(text, one + ";" + two, NONE);
        dueFault(text, one + two, 5);
        dueFault(text, ";" + one, 0);
        dueFault(text, one + ";;" + two, 6);
        dueFault(text, one + ";", 6);
        dueFault(text, one + ";" + two + ";", 12);
        for (int b = 0; b < 256; b++) {
            if (b != ';') dueFault(text, one + (char) b + two, 5);
        }
    }

    private void letters(int text, String letters, String chapter, String sentence) {
        of(chapter, sentence);
        for (int b = 0; b < 256; b++) {
            boolean is = letters.indexOf(b) >= 0;
            String thing = (char) b + "0123";
            dueFault(text, thing, is ? NONE : 0);
            dueFault(text, letters.charAt(0) + "9876;" + thing, is ? NONE : 6);
        }
        for (int k = 0; k < letters.length(); k++) {
            DairyCollege x = new DairyCollege();
            typeAll(x, text, letters.charAt(k) + "0123");
            due("of what sort " + letters.charAt(k) + " is", text == 0 ? x.member(0, 0) : x.cow(0, 0), text == 0 ? k : 1 - k);
        }
    }

    private void figures(int text, String letter, String chapter, String sentence) {
        of(chapter, sentence);
        for (int place = 1; place <= 4; place++) {
            for (int b = 0; b < 256; b++) {
                String thing = letter + "0909".substring(0, place - 1) + (char) b + "9090".substring(place);
                boolean is = b >= '0' && b <= '9';
                dueFault(text, thing, is ? NONE : place);
                if (is) {
                    DairyCollege x = new DairyCollege();
                    typeAll(x, text, thing);
                    due("figure " + place + " of " + thing, text == 0 ? x.member(0, place) : x.cow(0, place), b - '0');
                }
            }
        }
        dueFault(text, letter + "123", 4);
        dueFault(text, letter + "123;", 4);
        dueFault(text, letter + "12345", 5);
    }

    private void firstByte() {
        of(TERMS, "The FAULT of a text is the place of the first byte with which it cannot go on");
        dueFault(0, "p12x4;q9999", 3);
        dueFault(0, "p1234;q99x9", 6);
        dueFault(1, "x", 0);
        dueFault(1, "r1234;w12345;", 11);
        dueFault(0, EIGHT_MEMBERS.substring(0, 46) + "x", 46);
        DairyCollege x = college("p12x", "");
        due("type behind a fault", x.type(0, '4'), 5);
        due("fault(0), the first stays", x.fault(0), 3);
        due("undo", x.undo(0), 4);
        due("undo", x.undo(0), 3);
        due("fault(0), the wrong one undone", x.fault(0), 3);
        due("type", x.type(0, '3'), 4);
        due("type", x.type(0, '4'), 5);
        due("fault(0), mended", x.fault(0), NONE);
    }

    private void emptyIsWell() {
        of(TERMS, "(an empty one is well");
        for (int text = 0; text < 2; text++) {
            DairyCollege x = new DairyCollege();
            due("fault of a new one", x.fault(text), NONE);
            x.type(text, 'x');
            due("fault of x", x.fault(text), 0);
            x.undo(text);
            due("fault behind undo", x.fault(text), NONE);
            x.type(text, 'x');
            x.wipe(text);
            due("fault behind wipe", x.fault(text), NONE);
        }
    }

    private void notEnded() {
        of(TERMS, "of one that is not ended, its end)");
        for (int text = 0; text < 2; text++) {
            String whole = text == 0 ? EIGHT_MEMBERS : EIGHT_COWS;
            DairyCollege x = new DairyCollege();
            for (int n = 1; n <= LONGEST; n++) {
                x.type(text, whole.charAt(n - 1));
                due("fault of " + n + " bytes", x.fault(text), n % 6 == 5 ? NONE : n);
            }
            for (int n = LONGEST - 1; n > 0; n--) {
                x.undo(text);
                due("fault of " + n + " bytes, by undo", x.fault(text), n % 6 == 5 ? NONE : n);
            }
        }
    }

    /** No text has room for the first byte of a ninth, nor for the ; ahead of it. */
    private void ninth() {
        of(TERMS, "here also of the first byte of a ninth.");
        DairyCollege x = college(EIGHT_MEMBERS, EIGHT_COWS);
        for (int text = 0; text < 2; text++) {
            due("type(" + text + ", ';') behind the eighth", x.type(text, ';'), FULL);
            due("type of a ninth", x.type(text, text == 0 ? 'p' : 'w'), FULL);
            due("fault", x.fault(text), NONE);
            due("things", x.count(text), 8);
        }
    }

    private void asIfEmpty() {
        of(TERMS, "With a FAULT a text is as if it was empty.");
        DairyCollege x = college("p5555;t0000", "r6666;r9999", 0, 0, 0, 0, 0, 1);
        due("able(0, 0, 1)", x.able(0, 0, 1), 0);
        x.type(1, ';');
        due("count(1), cows with a fault", x.count(1), 0);
        due("count(3), their bytes", x.count(3), 12);
        due("cow(0, 0)", x.cow(0, 0), BAD);
        due("count(4), feeds stay", x.count(4), 2);
        dueAt(x, 19, 0, 0, 5, 5, 5, 5);
        dueAble(x, 19, 0, 3, 0, 1);
        dueRear(x, 0, 0, 6, NONE, NONE, NONE);
        dueCarry(x, 0, 0, NONE, NONE, NONE);
        due("years(1, 8, 1)", x.years(1, 8, 1), 0);
        x.undo(1);
        due("count(1), mended", x.count(1), 2);
        dueAt(x, 19, 0, 0, 7, 7, 7, 7);
        x.type(0, '0');
        due("count(0), members with a fault", x.count(0), 0);
        due("count(2), their bytes", x.count(2), 12);
        due("member(0, 0)", x.member(0, 0), BAD);
        due("at(0, 0, 0, 0)", x.at(0, 0, 0, 0), BAD);
        due("able(0, 0, 0)", x.able(0, 0, 0), BAD);
        due("power(0, 0, 0)", x.power(0, 0, 0), LONG_BAD);
        dueHouse(x, 19, 0, 0, 0, 0);
        dueCarry(x, 0, 0, NONE, NONE, NONE);
        due("weaned()", x.weaned(), 0);
        x.undo(0);
        due("count(0), mended", x.count(0), 2);
        dueAt(x, 19, 0, 0, 7, 7, 7, 7);
    }

    private void typed() {
        String chapter = "Promise 2: type";
        of(chapter, "A byte (0 to 255) comes behind a text");
        dueRanges("type", this::roomy, (x, n) -> x.type(n[0], n[1]), BAD, to(0, 1), to(0, 255));
        of(chapter, "how many. BAD; FULL.");
        due("type, the first", new DairyCollege().type(0, 0), 1);
        for (int text = 0; text < 2; text++) {
            int of = text;
            dueRefused("type of a full text " + of, this::full, x -> x.type(of, '0'), FULL);
            dueRefused("a bad type of a full text " + of, this::full, x -> x.type(of, 256), BAD);
        }
    }

    private void wiped() {
        String chapter = "Promise 3: wipe";
        of(chapter, "A text is empty: how many bytes it had.");
        for (int text = 0; text < 2; text++) {
            DairyCollege x = full();
            due("wipe of a full text", x.wipe(text), LONGEST);
            due("its bytes", x.count(2 + text), 0);
            due("its things", x.count(text), 0);
            due("the other's bytes", x.count(3 - text), LONGEST);
            due("wipe of an empty one", x.wipe(text), 0);
            due("feeds stay", x.count(4), 8);
            due("seen stay", x.count(7), 8);
        }
        DairyCollege x = college("p12x", "");
        due("wipe of one with a fault", x.wipe(0), 4);
        of(chapter, "BAD.");
        dueRanges("wipe", this::roomy, (y, n) -> y.wipe(n[0]), BAD, to(0, 1));
    }

    private void undone() {
        String chapter = "Promise 4: undo";
        of(chapter, "The last byte of a text is undone: how many are left.");
        DairyCollege x = college("p0123;t4567", "w");
        for (int n = 10; n >= 0; n--) {
            due("undo(0)", x.undo(0), n);
            due("count(0)", x.count(0), n > 0 && n % 6 == 5 ? 1 : 0);
        }
        due("the other's bytes", x.count(3), 1);
        due("undo(1)", x.undo(1), 0);
        of(chapter, "BAD;");
        dueRanges("undo", this::roomy, (y, n) -> y.undo(n[0]), BAD, to(0, 1));
        of(chapter, "NOT: it is empty.");
        dueRefused("undo(0)", DairyCollege::new, y -> y.undo(0), NOT);
        dueRefused("undo(1)", () -> college("p1234", ""), y -> y.undo(1), NOT);
    }

    private void faultAnswers() {
        String chapter = "Promise 5: fault";
        of(chapter, "The FAULT of a text; NONE.");
        DairyCollege x = college("p1234;", "w123");
        due("fault(0)", x.fault(0), 6);
        due("fault(1)", x.fault(1), 4);
        x.type(1, '4');
        due("fault(1)", x.fault(1), NONE);
        due("fault(0)", x.fault(0), 6);
        of(chapter, "BAD.");
        dueRanges("fault", this::roomy, (y, n) -> y.fault(n[0]), BAD, to(0, 1));
    }

    private void memberAnswers() {
        String chapter = "Promise 6: member";
        of(chapter, "(what = 0: 0 p, 1 t, 2 i)");
        DairyCollege x = college("p0123;t9876;i5059", "r5555", 0, 0, 0);
        int[][] wants = {{0, 0, 1, 2, 3}, {1, 9, 8, 7, 6}, {2, 5, 0, 5, 9}};
        for (int m = 0; m < 3; m++) {
            due("member(" + m + ", 0)", x.member(m, 0), wants[m][0]);
        }
        of(chapter, "what it holds at first of QUESTIONS 0 to 3 (1 to 4).");
        for (int m = 0; m < 3; m++) {
            for (int what = 1; what < 5; what++) {
                due("member(" + m + ", " + what + ")", x.member(m, what), wants[m][what]);
            }
        }
        of(chapter, "BAD.");
        dueRanges("member", this::roomy, (y, n) -> y.member(n[0], n[1]), BAD, to(0, 1), to(0, 4));
        dueRanges("member", this::full, (y, n) -> y.member(n[0], n[1]), BAD, to(0, 7), to(0, 4));
        due("member(0, 0) where there is none", new DairyCollege().member(0, 0), BAD);
    }

    private void cowAnswers() {
        String chapter = "Promise 7: cow";
        of(chapter, "Whether it is warmed (what = 0: 1, 0)");
        DairyCollege x = college("", "w0123;r9876");
        due("cow(0, 0)", x.cow(0, 0), 1);
        due("cow(1, 0)", x.cow(1, 0), 0);
        of(chapter, "its ARGUMENTS (1 to 4).");
        for (int what = 1; what < 5; what++) {
            due("cow(0, " + what + ")", x.cow(0, what), what - 1);
            due("cow(1, " + what + ")", x.cow(1, what), 10 - what);
        }
        of(chapter, "BAD.");
        dueRanges("cow", this::roomy, (y, n) -> y.cow(n[0], n[1]), BAD, to(0, 0), to(0, 4));
        dueRanges("cow", this::full, (y, n) -> y.cow(n[0], n[1]), BAD, to(0, 7), to(0, 4));
        due("cow(0, 0) where there is none", new DairyCollege().cow(0, 0), BAD);
    }

    private void terms() {
        of(TERMS, "TERMS are 0 to 19.");
        DairyCollege x = college("p5555", "r6666", 0, 0, 0, 19, 0, 0);
        due("at(0), fed in term 0", x.at(0, 0, 0, 0), 6);
        due("at(18)", x.at(18, 0, 0, 0), 6);
        due("able(18)", x.able(18, 0, 0), 4);
        due("able(19), fed in term 19", x.able(19, 0, 0), 5);
        due("at(20)", x.at(20, 0, 0, 0), BAD);
        due("at(-1)", x.at(-1, 0, 0, 0), BAD);
    }

    private void eightFeeds() {
        of(TERMS, "FEEDS, 8 at most (0 on)");
        DairyCollege x = college("i5555", "r5555");
        for (int n = 1; n <= 8; n++) {
            due("feed " + n, x.feed(20 - n, 0, 0), n);
        }
        due("feed 9", x.feed(0, 0, 0), FULL);
        due("count(4)", x.count(4), 8);
        due("never(), the first is 0, the eighth 7", x.never(), 255);
        due("back", x.back(), 7);
        due("feed 8 again", x.feed(0, 0, 0), 8);
        due("feed 9 again", x.feed(0, 0, 0), FULL);
    }

    private void fedOf() {
        of(TERMS, "in a TERM a MEMBER (0 to 7) is given of a COW (0 to 7).");
        DairyCollege x = new DairyCollege();
        due("feed of a member and a cow that are not there", x.feed(0, 7, 7), 1);
        due("feed(0, 8, 0)", x.feed(0, 8, 0), BAD);
        due("feed(0, 0, 8)", x.feed(0, 0, 8), BAD);
        typeAll(x, 0, EIGHT_MEMBERS);
        typeAll(x, 1, EIGHT_COWS);
        dueAt(x, 0, 7, 1, 2, 9, 4, 5);
        dueAt(x, 0, 7, 2, 4, 9, 4, 9);
    }

    private void fedMore() {
        String chapter = "Promise 8: feed";
        of(chapter, "A FEED more: how many.");
        DairyCollege x = new DairyCollege();
        for (int n = 1; n <= 8; n++) {
            due("feed, the like one", x.feed(3, 1, 1), n);
        }
        of(chapter, "BAD; FULL.");
        dueRanges("feed", this::roomy, (y, n) -> y.feed(n[0], n[1], n[2]), BAD, to(0, 19), to(0, 7), to(0, 7));
        dueRefused("feed, the ninth", this::full, y -> y.feed(0, 0, 0), FULL);
        dueRefused("feed, a bad ninth", this::full, y -> y.feed(0, 0, 8), BAD);
        dueRefused("feed, a bad ninth", this::full, y -> y.feed(20, 0, 0), BAD);
    }

    private void backAnswers() {
        String chapter = "Promise 9: back";
        of(chapter, "The last FEED is undone: how many are left.");
        DairyCollege x = college("p5555", "r6666;r7777", 9, 0, 0, 3, 0, 1, 3, 0, 1);
        due("back", x.back(), 2);
        due("at(3), the last told is the one undone", x.at(3, 0, 0, 0), 6);
        due("back", x.back(), 1);
        due("at(3), though it is of an earlier term", x.at(3, 0, 0, 0), 5);
        due("at(9)", x.at(9, 0, 0, 0), 6);
        due("back", x.back(), 0);
        due("at(9)", x.at(9, 0, 0, 0), 5);
        of(chapter, "NOT: there is none.");
        due("back", x.back(), NOT);
        dueRefused("back of a new one", DairyCollege::new, DairyCollege::back, NOT);
    }

    private void readWhole() {
        String chapter = "Promise 10: read";
        of(chapter, "FEEDS more, behind those that there are, from a SHEET");
        DairyCollege x = college("t0000", "r2000;r5000", 4, 0, 0);
        x.sheet(2, 1, 3);
        x.put(2, 1, 0, 4);
        x.put(2, 1, 2, 1);
        due("read(2)", x.read(2), 1);
        due("count(4)", x.count(4), 2);
        due("able(4), it is done behind the other", x.able(4, 0, 1), 0);
        due("back, it is the last", x.back(), 1);
        due("at(4)", x.at(4, 0, 0, 2), 2);
        of(chapter, "its items, three for each, as many as are whole");
        for (int n = 0; n <= 26; n++) {
            DairyCollege y = new DairyCollege();
            y.sheet(0, n % 3, n);
            due("read of " + n + " items", y.read(0), n / 3);
            due("count(4)", y.count(4), n / 3);
        }
        DairyCollege z = college("p5555", "r6666;r5555");
        z.sheet(0, 0, 6);
        int[] items = {7, 2, 1, 19, 0, 0};
        for (int i = 0; i < 6; i++) {
            z.put(0, 0, i, items[i]);
        }
        due("read, term, member, cow", z.read(0), 2);
        due("at(18)", z.at(18, 0, 0, 0), 5);
        due("at(19)", z.at(19, 0, 0, 0), 6);
        due("the sheet stays", z.get(0, 0, 3), 19);
    }

    private void readRefused() {
        of("Promise 10: read", "one by one as feed() takes them, up to the first that it refuses: how many it took.");
        int[][] bads = {{20, 0, 0}, {-1, 0, 0}, {0, 8, 0}, {0, -1, 0}, {0, 0, 8}, {0, 0, -1}};
        for (int[] bad : bads) {
            for (int ahead = 0; ahead < 3; ahead++) {
                DairyCollege x = new DairyCollege();
                x.sheet(1, ahead, 15);
                for (int i = 0; i < 3; i++) {
                    x.put(1, ahead, 3 * ahead + i, bad[i]);
                }
                due("read, " + ahead + " ahead of a bad one", x.read(1), ahead);
                due("count(4)", x.count(4), ahead);
                due("count(8)", x.count(8), 0);
            }
        }
        for (int had = 0; had <= 8; had++) {
            DairyCollege x = new DairyCollege();
            for (int n = 0; n < had; n++) {
                x.feed(0, 0, 0);
            }
            x.sheet(0, 2, 60);
            due("read where there are " + had, x.read(0), 8 - had);
            due("count(4)", x.count(4), 8);
        }
    }

    private void readRefusals() {
        of("Promise 10: read", "BAD; NULL.");
        dueRanges("read", this::roomy, (x, n) -> x.read(n[0]), BAD, to(0, 3));
        dueRefused("read of a lost one", this::roomy, x -> x.read(2), NULL);
        dueRefused("read of a lost one where there is no room", this::full, x -> x.read(2), NULL);
    }
}
