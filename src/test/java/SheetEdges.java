import java.math.BigInteger;
import java.util.Random;

/** Boundary cases of sheets, of counts and of the digest: promises 29 to 36, and what "Terms" says of them and of refusals. */
final class SheetEdges extends Edges {
    private static final int[] VALUES = {0, 1, -1, 127, 128, 129, 255, 256, 257, -127, -128, -129, -256, 32767, 32768, 32769,
        65535, 65536, 65537, -32767, -32768, -32769, -65536, MOST_INT, LEAST_INT + 1, 0x7fffff80, 0x7fff8000, 0x80008080};

    SheetEdges(Check check, Document document) {
        super(check, document);
    }

    @Override
    void run() {
        lostAtFirst();
        forms();
        sizes();
        zeroAtFirst();
        findings();
        newRow();
        sheetRefusals();
        losing();
        putting();
        putRefusals();
        getting();
        getRefusals();
        copying();
        copyOnItself();
        copyRefusals();
        copyIndexes();
        writing();
        writeRefusals();
        counting();
        latestFinding();
        countRefusals();
        digestOfAll();
        digestWraps();
        refusalsInOrder();
        refusalsOfLongs();
    }

    private void lostAtFirst() {
        of(TERMS, "SHEETS 0 .. 3 are LOST (at first)");
        DairyCollege x = new DairyCollege();
        for (int s = 0; s < 4; s++) {
            due("read", x.read(s), NULL);
            due("lose", x.lose(s), NULL);
            due("put", x.put(s, 0, 0, 0), NULL);
            due("get", x.get(s, 0, 0), NO_ITEM);
            due("count(8)", x.count(8), 1);
            due("copy", x.copy(s, 0, s, 0, 0), NULL);
            due("sheet", x.sheet(s, 0, 1), 1);
            due("get", x.get(s, 0, 0), 0);
            due("lose", x.lose(s), 1);
            due("lose again", x.lose(s), NULL);
        }
        due("sheet 4", x.sheet(4, 0, 1), BAD);
        due("sheet -1", x.sheet(-1, 0, 1), BAD);
    }

    private void forms() {
        of(TERMS, "or a row of a FORM: 0 bytes, 1 shorts, 2 ints");
        DairyCollege x = new DairyCollege();
        int[] wants = {-128, -32640, 0x12348080};
        for (int form = 0; form < 3; form++) {
            due("sheet", x.sheet(form, form, 1), 1);
            due("put", x.put(form, form, 0, 0x12348080), 1);
            due("get of form " + form, x.get(form, form, 0), wants[form]);
        }
        due("form 3", x.sheet(0, 3, 1), BAD);
        due("form -1", x.sheet(0, -1, 1), BAD);
    }

    private void sizes() {
        of(TERMS, "of 0 to 60 items");
        for (int form = 0; form < 3; form++) {
            for (int n = 0; n <= 60; n++) {
                DairyCollege x = new DairyCollege();
                due("sheet of " + n, x.sheet(1, form, n), n);
                due("the last item", x.put(1, form, n - 1, 9), n == 0 ? INDEX : 1);
                due("one behind it", x.put(1, form, n, 9), INDEX);
                due("lose", x.lose(1), n);
            }
            DairyCollege y = new DairyCollege();
            due("sheet of 61", y.sheet(1, form, 61), BAD);
            due("lose", y.lose(1), NULL);
            due("sheet of -1", y.sheet(1, form, -1), SIZE);
            due("lose", y.lose(1), NULL);
        }
    }

    private void zeroAtFirst() {
        of(TERMS, "(0 at first).");
        DairyCollege x = new DairyCollege();
        for (int round = 0; round < 3; round++) {
            x.sheet(0, round, 60);
            for (int i = 0; i < 60; i++) {
                due("item " + i + ", new", x.get(0, round, i), 0);
                x.put(0, round, i, 1 + i);
            }
        }
    }

    private void findings() {
        of(TERMS, "FINDINGS (answers -10 less the number; they change nothing but count() 8)");
        dueRefused("lose of a lost one", this::full, x -> x.lose(2), -11, 1);
        dueRefused("put beyond", this::full, x -> x.put(0, 0, 3, 9), -12, 2);
        dueRefused("put as of another form", this::full, x -> x.put(0, 2, 0, 9), -13, 3);
        dueRefused("copy of unlike forms", this::full, x -> x.copy(0, 0, 1, 0, 1), -14, 4);
        dueRefused("sheet of -1", this::full, x -> x.sheet(0, 0, -1), -15, 5);
        of(TERMS, "1 NULL: the SHEET is LOST");
        dueRefused("read", this::full, x -> x.read(2), -11, 1);
        dueRefused("put", this::full, x -> x.put(2, 0, 0, 0), -11, 1);
        dueRefused("write", this::full, x -> x.write(0, 0, 2), -11, 1);
        of(TERMS, "2 INDEX: there is no such item");
        dueRefused("put at -1", this::full, x -> x.put(0, 0, -1, 9), -12, 2);
        dueRefused("put where there are none", this::full, x -> x.put(3, 2, 0, 9), -12, 2);
        of(TERMS, "3 CAST: it has another FORM");
        dueRefused("put of bytes as of shorts", this::full, x -> x.put(0, 1, 0, 9), -13, 3);
        dueRefused("put of shorts as of bytes", this::full, x -> x.put(1, 0, 0, 9), -13, 3);
        dueRefused("put of shorts as of ints", this::full, x -> x.put(1, 2, 0, 9), -13, 3);
        dueRefused("put of ints as of shorts", this::full, x -> x.put(3, 1, 0, 9), -13, 3);
        of(TERMS, "4 STORE: unlike FORMS");
        dueRefused("copy of shorts to bytes", this::full, x -> x.copy(1, 0, 0, 0, 1), -14, 4);
        dueRefused("copy of ints to bytes", this::full, x -> x.copy(3, 0, 0, 0, 0), -14, 4);
        of(TERMS, "5 SIZE: below 0.");
        dueRefused("sheet, the least int", this::full, x -> x.sheet(2, 0, LEAST_INT), -15, 5);
        dueRefused("sheet of -1, lost", this::full, x -> x.sheet(2, 2, -1), -15, 5);
    }

    private void newRow() {
        String chapter = "Promise 29: sheet";
        of(chapter, "A SHEET is a new row of a FORM with n items: n.");
        DairyCollege x = new DairyCollege();
        due("sheet", x.sheet(0, 1, 5), 5);
        due("sheet", x.sheet(1, 1, 5), 5);
        x.put(0, 1, 4, 300);
        x.put(1, 1, 4, 400);
        due("sheet, the like once more", x.sheet(0, 1, 5), 5);
        due("get, it is a new one", x.get(0, 1, 4), 0);
        due("get of the other", x.get(1, 1, 4), 400);
        x.put(0, 1, 4, 300);
        due("sheet, shorter", x.sheet(0, 1, 4), 4);
        due("put, shorter", x.put(0, 1, 4, 1), INDEX);
        due("sheet, longer again", x.sheet(0, 1, 5), 5);
        due("get, what was there is gone", x.get(0, 1, 4), 0);
        due("sheet, another form", x.sheet(0, 2, 5), 5);
        due("put as of the old form", x.put(0, 1, 0, 1), CAST);
        due("put as of the new form", x.put(0, 2, 0, 70000), 1);
        due("get", x.get(0, 2, 0), 70000);
        due("sheet of none", x.sheet(0, 2, 0), 0);
        due("lose of none", x.lose(0), 0);
    }

    private void sheetRefusals() {
        of("Promise 29: sheet", "BAD: SHEET, FORM, above 60; SIZE.");
        int[][] bads = {{4, 0, 1}, {-1, 0, 1}, {MOST_INT, 0, 1}, {LEAST_INT, 0, 1}, {0, 3, 1}, {0, -1, 1}, {0, MOST_INT, 1},
            {0, LEAST_INT, 1}, {0, 0, 61}, {0, 0, MOST_INT}, {2, 2, 61}, {4, 0, -1}, {-1, 0, -1}, {0, 3, -1}, {0, -1, LEAST_INT}};
        for (int[] b : bads) {
            dueRefused("a bad sheet", this::full, x -> x.sheet(b[0], b[1], b[2]), BAD);
        }
        dueRefused("sheet of -1", this::full, x -> x.sheet(1, 2, -1), SIZE);
        dueRefused("sheet of the least int", this::full, x -> x.sheet(0, 0, LEAST_INT), SIZE);
        int[][] taken = {{0, 0, 0}, {3, 2, 60}};
        for (int[] t : taken) {
            due("sheet", full().sheet(t[0], t[1], t[2]), t[2]);
        }
    }

    private void losing() {
        String chapter = "Promise 30: lose";
        of(chapter, "It is LOST: how many items it had.");
        DairyCollege x = full();
        due("lose(0)", x.lose(0), 3);
        due("lose(1)", x.lose(1), 4);
        due("lose(3), of none", x.lose(3), 0);
        due("count(8) stays", x.count(8), 3);
        due("put", x.put(0, 0, 0, 1), NULL);
        due("copy", x.copy(0, 0, 0, 0, 0), NULL);
        due("sheet", x.sheet(0, 0, 3), 3);
        due("get, what was there is gone", x.get(0, 0, 1), 0);
        of(chapter, "BAD; NULL.");
        dueRanges("lose", this::full, (y, n) -> y.lose(n[0]), BAD, to(0, 3));
        dueRefused("lose of a lost one", this::full, y -> y.lose(2), NULL);
    }

    private static int kept(int form, int v) {
        int bits = form == 0 ? 24 : form == 1 ? 16 : 0;
        return v << bits >> bits;
    }

    private void putting() {
        of("Promise 31: put", "Item i, treated as of a FORM, becomes v (the lowest bits that it has, with its sign; by write(), too): 1.");
        for (int form = 0; form < 3; form++) {
            DairyCollege x = new DairyCollege();
            x.sheet(form, form, 60);
            for (int k = 0; k < VALUES.length; k++) {
                int i = k % 2 == 0 ? k : 59 - k;
                due("put " + VALUES[k], x.put(form, form, i, VALUES[k]), 1);
                due("get " + VALUES[k] + " of form " + form, x.get(form, form, i), kept(form, VALUES[k]));
            }
            x.sheet(form, form, 60);
            due("put at 0", x.put(form, form, 0, 5), 1);
            due("put at 59", x.put(form, form, 59, 6), 1);
            for (int i = 0; i < 60; i++) {
                due("item " + i, x.get(form, form, i), i == 0 ? 5 : i == 59 ? 6 : 0);
            }
        }
        DairyCollege y = college("i9999", "");
        for (int form = 0; form < 3; form++) {
            y.sheet(0, form, 2);
            y.put(0, form, 0, -1);
            due("write", y.write(0, 0, 0), 2);
            dueItems(y, 0, form, 9, 9);
        }
    }

    private void putRefusals() {
        of("Promise 31: put", "BAD; NULL; CAST; INDEX.");
        dueRanges("put", this::full, (x, n) -> x.put(n[0], n[1], 0, 9), BAD, to(0, 3), to(0, 2));
        dueRefused("put, a bad form of a lost one", this::full, x -> x.put(2, 3, 0, 9), BAD);
        dueRefused("put, a bad sheet, another form, beyond", this::full, x -> x.put(4, 1, 99, 9), BAD);
        dueRefused("put, a lost one, beyond", this::full, x -> x.put(2, 1, 99, 9), NULL);
        dueRefused("put, another form, beyond", this::full, x -> x.put(0, 1, 99, 9), CAST);
        for (int i : new int[] {-1, 3, LEAST_INT, MOST_INT}) {
            dueRefused("put at " + i, this::full, x -> x.put(0, 0, i, 9), INDEX);
        }
        dueRefused("put at 4 of 4", this::full, x -> x.put(1, 1, 4, 9), INDEX);
    }

    private void getting() {
        of("Promise 32: get", "Item i of it.");
        DairyCollege x = full();
        dueItems(x, 0, 0, 1, 2, 3);
        dueItems(x, 1, 1, 0, 0, 300, 600);
        x.sheet(3, 2, 1);
        x.put(3, 2, 0, LEAST_INT);
        x.lose(2);
        due("count(8)", x.count(8), 1);
        due("get of the least int itself", x.get(3, 2, 0), LEAST_INT);
        due("count(8), nothing is found", x.count(8), 1);
    }

    private void getRefusals() {
        of("Promise 32: get", "BAD: the least int; so are NULL, CAST, INDEX (count() 8 tells).");
        for (int s : new int[] {4, -1, LEAST_INT, MOST_INT}) {
            dueRefused("get of sheet " + s, this::full, x -> x.get(s, 0, 0), NO_ITEM, 0);
        }
        for (int form : new int[] {3, -1, LEAST_INT, MOST_INT}) {
            dueRefused("get of form " + form, this::full, x -> x.get(0, form, 0), NO_ITEM, 0);
            dueRefused("get of form " + form + " of a lost one", this::full, x -> x.get(2, form, 0), NO_ITEM, 0);
        }
        dueRefused("get of a lost one, beyond", this::full, x -> x.get(2, 1, 99), NO_ITEM, 1);
        dueRefused("get of another form, beyond", this::full, x -> x.get(0, 2, 99), NO_ITEM, 3);
        for (int i : new int[] {-1, 3, LEAST_INT, MOST_INT}) {
            dueRefused("get at " + i, this::full, x -> x.get(0, 0, i), NO_ITEM, 2);
        }
        dueRefused("get where there are none", this::full, x -> x.get(3, 2, 0), NO_ITEM, 2);
    }

    /** Sheets 0 of five ints, 1 of three ints, 2 of no ints; 3 is lost. */
    private DairyCollege ints() {
        DairyCollege x = new DairyCollege();
        x.sheet(0, 2, 5);
        x.sheet(1, 2, 3);
        x.sheet(2, 2, 0);
        for (int i = 0; i < 5; i++) {
            x.put(0, 2, i, 10 + i);
            x.put(1, 2, i % 3, 20 + i % 3);
        }
        return x;
    }

    private void copying() {
        of("Promise 33: copy", "n items of SHEET s, from i on, come to SHEET t");
        DairyCollege x = ints();
        due("copy of the last three to all", x.copy(0, 2, 1, 0, 3), 1);
        dueItems(x, 1, 2, 12, 13, 14);
        dueItems(x, 0, 2, 10, 11, 12, 13, 14);
        x = ints();
        due("copy of the first to the last", x.copy(0, 0, 1, 2, 1), 1);
        dueItems(x, 1, 2, 20, 21, 10);
        due("copy of none", x.copy(0, 0, 1, 0, 0), 1);
        due("copy of none, at the ends", x.copy(0, 5, 1, 3, 0), 1);
        due("copy of none of none", x.copy(2, 0, 2, 0, 0), 1);
        due("copy of none to none", x.copy(0, 5, 2, 0, 0), 1);
        dueItems(x, 1, 2, 20, 21, 10);
        due("copy of all to more", x.copy(1, 0, 0, 2, 3), 1);
        dueItems(x, 0, 2, 10, 11, 20, 21, 10);
        for (int form = 0; form < 2; form++) {
            x.sheet(0, form, 60);
            x.sheet(1, form, 60);
            x.put(0, form, 0, -7);
            x.put(0, form, 59, -8);
            due("copy of 60", x.copy(0, 0, 1, 0, 60), 1);
            due("the first", x.get(1, form, 0), -7);
            due("the last", x.get(1, form, 59), -8);
        }
        due("count(8)", x.count(8), 0);
    }

    private void copyOnItself() {
        of("Promise 33: copy", "(perhaps s, as they were), from j on: 1.");
        DairyCollege x = ints();
        due("upwards", x.copy(0, 0, 0, 1, 4), 1);
        dueItems(x, 0, 2, 10, 10, 11, 12, 13);
        x = ints();
        due("downwards", x.copy(0, 1, 0, 0, 4), 1);
        dueItems(x, 0, 2, 11, 12, 13, 14, 14);
        x = ints();
        due("where they are", x.copy(0, 0, 0, 0, 5), 1);
        dueItems(x, 0, 2, 10, 11, 12, 13, 14);
        due("upwards by two", x.copy(0, 0, 0, 2, 3), 1);
        dueItems(x, 0, 2, 10, 11, 10, 11, 12);
    }

    private void copyRefusals() {
        of("Promise 33: copy", "BAD: the SHEETS; NULL: s, t; STORE;");
        for (int s : new int[] {4, -1, LEAST_INT, MOST_INT}) {
            dueRefused("copy of " + s, this::full, x -> x.copy(s, 0, 0, 0, 1), BAD);
            dueRefused("copy to " + s, this::full, x -> x.copy(0, 0, s, 0, 1), BAD);
            dueRefused("copy of " + s + " to a lost one", this::full, x -> x.copy(s, 0, 2, 0, 1), BAD);
            dueRefused("copy of a lost one to " + s, this::full, x -> x.copy(2, 0, s, 0, 1), BAD);
        }
        dueRefused("copy of a lost one", this::full, x -> x.copy(2, 0, 0, 0, 1), NULL);
        dueRefused("copy to a lost one", this::full, x -> x.copy(0, 0, 2, 0, 1), NULL);
        dueRefused("copy of a lost one to itself", this::full, x -> x.copy(2, 0, 2, 0, 0), NULL);
        dueRefused("copy of a lost one, beyond", this::full, x -> x.copy(2, -1, 0, 0, 1), NULL);
        dueRefused("copy of unlike forms", this::full, x -> x.copy(0, 0, 1, 0, 1), STORE);
        dueRefused("copy of unlike forms, none", this::full, x -> x.copy(0, 0, 1, 0, 0), STORE);
        dueRefused("copy of unlike forms, beyond", this::full, x -> x.copy(0, 99, 1, 0, -1), STORE);
    }

    private void copyIndexes() {
        of("Promise 33: copy", "INDEX: i, j or n below 0, not so many there (of n 0, too: i or j above the size).");
        int[][] bads = {
            {-1, 0, 1}, {0, -1, 1}, {0, 0, -1}, {LEAST_INT, 0, 1}, {0, LEAST_INT, 1}, {0, 0, LEAST_INT}, {-1, 0, 0}, {0, -1, 0},
            {3, 0, 3}, {0, 1, 3}, {5, 0, 1}, {0, 3, 1}, {0, 0, 4}, {0, 0, 6}, {-1, -1, -1}, {5, 3, -1}, {1, 1, -1},
            {6, 0, 0}, {0, 4, 0}, {MOST_INT, 0, 0}, {0, MOST_INT, 0},
            {1, 0, MOST_INT}, {MOST_INT, 0, 1}, {0, MOST_INT, 1}, {MOST_INT, MOST_INT, MOST_INT}, {0, 0, MOST_INT},
            {MOST_INT, 0, MOST_INT}, {0, 1, MOST_INT}, {LEAST_INT, LEAST_INT, LEAST_INT}};
        for (int[] b : bads) {
            dueRefused("copy from " + b[0] + " to " + b[1] + " of " + b[2], this::ints, x -> x.copy(0, b[0], 1, b[1], b[2]), INDEX);
        }
        dueRefused("copy of one of none", this::ints, x -> x.copy(2, 0, 0, 0, 1), INDEX);
        dueRefused("copy of one to none", this::ints, x -> x.copy(0, 0, 2, 0, 1), INDEX);
        dueRefused("copy on itself, beyond", this::ints, x -> x.copy(0, 0, 0, 1, 5), INDEX);
    }

    private void writing() {
        String sentence = "What is HELD by a MEMBER of a QUESTION behind TERMS 0 on comes to a SHEET from item 0 on, "
            + "as many as there are items, 20 at most: how many.";
        of("Promise 34: write", sentence);
        for (int n = 0; n <= 60; n++) {
            DairyCollege x = college("t5555;p5555", "w6669", 0, 1, 0, 5, 1, 0, 19, 1, 0);
            int form = n % 3;
            x.sheet(3, form, n);
            for (int i = 0; i < n; i++) {
                x.put(3, form, i, 77);
            }
            due("write to " + n, x.write(1, 3, 3), Math.min(n, 20));
            for (int i = 0; i < n; i++) {
                due("item " + i + " of " + n, x.get(3, form, i), i < 5 ? 6 : i < 19 ? 7 : i < 20 ? 8 : 77);
            }
        }
        DairyCollege y = college("t5555;p5555", "w6669", 0, 1, 0, 5, 1, 0, 19, 1, 0);
        y.sheet(0, 0, 20);
        due("write of another member", y.write(0, 3, 0), 20);
        due("term 19", y.get(0, 0, 19), 5);
        due("write of another question", y.write(1, 0, 0), 20);
        due("term 19", y.get(0, 0, 19), 6);
    }

    private void writeRefusals() {
        of("Promise 34: write", "BAD; NULL.");
        dueRanges("write", this::full, (x, n) -> x.write(n[0], n[1], n[2]), BAD, to(0, 7), to(0, 3), to(0, 3));
        dueRanges("write", this::roomy, (x, n) -> x.write(n[0], n[1], n[2]), BAD, to(0, 1), to(0, 3), to(0, 3));
        dueRefused("write of one that there is not to a lost one", this::roomy, x -> x.write(2, 0, 2), BAD);
        dueRefused("write of no such question to a lost one", this::roomy, x -> x.write(0, 4, 2), BAD);
        dueRefused("write to a lost one", this::roomy, x -> x.write(0, 0, 2), NULL);
    }

    private void counting() {
        String sentence = "0 MEMBERS, 1 COWS, 2, 3 bytes of texts, 4 FEEDS, 5 who do not KNOW behind TERM 19, "
            + "6 how often all are SICK together, 7 SEEN";
        of("Promise 35: count", sentence);
        DairyCollege x = college("t0000;t0000", "w4900;r0000;r0000", 0, 0, 0, 19, 0, 0, 0, 1, 0, 0, 7, 0);
        x.seen(0, 0, 0, 0);
        int[] wants = {2, 3, 11, 17, 4, 1, 3, 1};
        for (int what = 0; what <= 7; what++) {
            due("count(" + what + ")", x.count(what), wants[what]);
            due("count(" + what + ") of a new one", new DairyCollege().count(what), 0);
        }
        DairyCollege full = full();
        int[] most = {8, 8, 47, 47, 8};
        for (int what = 0; what < 5; what++) {
            due("count(" + what + ") of a full one", full.count(what), most[what]);
        }
        due("count(7) of a full one", full.count(7), 8);
        DairyCollege y = college("t0000;".repeat(4).substring(0, 23), "w4999",
            0, 0, 0, 0, 0, 0, 0, 1, 0, 0, 1, 0, 0, 2, 0, 0, 2, 0, 0, 3, 0, 0, 3, 0);
        due("count(5), all", y.count(5), 4);
        due("count(6), of all together", y.count(6), 24);
    }

    private void latestFinding() {
        of("Promise 35: count", "8 the number of the latest FINDING (0 before any).");
        DairyCollege x = new DairyCollege();
        due("before any", x.count(8), 0);
        x.sheet(0, 0, 1);
        x.sheet(1, 1, 1);
        due("before any", x.count(8), 0);
        due("a finding", x.put(0, 0, 1, 0), INDEX);
        due("2", x.count(8), 2);
        due("a finding", x.copy(0, 0, 1, 0, 1), STORE);
        due("4", x.count(8), 4);
        due("a finding", x.lose(2), NULL);
        due("1", x.count(8), 1);
        due("a finding", x.sheet(3, 0, -1), SIZE);
        due("5", x.count(8), 5);
        due("a finding", x.put(0, 2, 0, 0), CAST);
        due("3", x.count(8), 3);
        due("none", x.put(0, 0, 0, 0), 1);
        due("it stays", x.count(8), 3);
        due("no finding", x.undo(0), NOT);
        due("it stays", x.count(8), 3);
        due("no finding", x.lose(4), BAD);
        due("it stays", x.count(8), 3);
        for (int n = 0; n < 48; n++) {
            x.type(0, 0);
        }
        due("no finding", x.type(0, 0), FULL);
        due("it stays", x.count(8), 3);
    }

    private void countRefusals() {
        of("Promise 35: count", "BAD.");
        dueRanges("count", this::full, (x, n) -> x.count(n[0]), BAD, to(0, 8));
        dueRanges("count", DairyCollege::new, (x, n) -> x.count(n[0]), BAD, to(0, 8));
    }

    private static Oracle twin(String members, String cows, int... feeds) {
        Oracle oracle = new Oracle();
        oracle.texts[0].append(members);
        oracle.texts[1].append(cows);
        for (int i = 0; i < feeds.length; i += 3) {
            oracle.feed(feeds[i], feeds[i + 1], feeds[i + 2]);
        }
        return oracle;
    }

    /** The document's list, by the calls that it names. */
    private static long fold(DairyCollege x) {
        long h = 17;
        for (int what = 0; what <= 7; what++) h = 31 * h + x.count(what);
        for (int text = 0; text < 2; text++) h = 31 * h + x.fault(text);
        for (int c = 0; c < x.count(1); c++) {
            for (int what = 0; what <= 4; what++) h = 31 * h + x.cow(c, what);
        }
        for (int m = 0; m < x.count(0); m++) h = foldMember(h, x, m);
        for (int q = 0; q < 4; q++) {
            for (int what = 0; what <= 2; what++) h = 31 * h + x.house(6, q, what);
            for (int what = 0; what <= 2; what++) h = 31 * h + x.house(19, q, what);
            h = 31 * h + x.says(q);
            for (int what = 0; what <= 2; what++) h = 31 * h + x.carry(8, q, what);
            for (int what = 0; what <= 1; what++) h = 31 * h + x.cream(5, 14, q, what);
        }
        for (int what = 0; what <= 2; what++) h = 31 * h + x.pusey(what);
        long[] rest = {x.weaned(), x.spare(NONE), x.spare(0), x.never(), x.years(7, 6, 0), x.years(7, 6, 1)};
        for (long v : rest) h = 31 * h + v;
        return h;
    }

    private static long foldMember(long start, DairyCollege x, int m) {
        long h = start;
        for (int what = 0; what <= 4; what++) h = 31 * h + x.member(m, what);
        for (int term : new int[] {0, 6, 19}) {
            for (int what = 0; what <= 2; what++) h = 31 * h + x.able(term, m, what);
        }
        for (int q = 0; q < 4; q++) {
            for (int what = 0; what <= 3; what++) h = 31 * h + x.at(6, m, q, what);
            for (int what = 0; what <= 3; what++) h = 31 * h + x.at(19, m, q, what);
            long[] rest = {x.power(m, q, 0), x.power(m, q, 1), x.rear(m, q, 9, NONE), x.rear(m, q, 9, 0), x.first(m, q), x.ask(m, q)};
            for (long v : rest) h = 31 * h + v;
        }
        return 31 * h + x.sort(m);
    }

    private static String things(Random random, String letters, int n) {
        StringBuilder s = new StringBuilder();
        for (int i = 0; i < n; i++) {
            s.append(i > 0 ? ";" : "").append(letters.charAt(random.nextInt(letters.length())));
            for (int q = 0; q < 4; q++) s.append(random.nextInt(10));
        }
        return s.toString();
    }

    /** Two or three members fed much, in the terms that the digest asks of and in those beside them. */
    private DairyCollege chance(long seed) {
        Random random = new Random(seed);
        int n = 2 + random.nextInt(2);
        int[] terms = {0, 1, 5, 6, 7, 8, 9, 13, 14, 15, 18, 19};
        int[] feeds = new int[24];
        for (int i = 0; i < 24; i += 3) {
            feeds[i] = terms[random.nextInt(terms.length)];
            feeds[i + 1] = random.nextInt(n);
            feeds[i + 2] = random.nextInt(3);
        }
        DairyCollege x = college(things(random, "ptt", n), things(random, "wwr", 3), feeds);
        int m = random.nextInt(n);
        x.seen(7, m, 1, x.at(7, m, 1, 0));
        return x;
    }

    private void digestOfAll() {
        of("Promise 36: digest", "(of each thing all that is told of it, then of the next one): count() 0 to 7; of texts fault(); "
            + "of COWS cow() 0 to 4; of MEMBERS member() 0 to 4, of TERMS 0, 6, 19 able(the TERM, it, 0 to 2), of QUESTIONS 0 to 3 "
            + "at(6, it, the QUESTION, 0 to 3), at(19, it, the QUESTION, 0 to 3), power(), above, below, "
            + "rear(it, the QUESTION, 9, NONE), rear(it, the QUESTION, 9, 0), first(), ask(), then sort(); "
            + "of QUESTIONS house(6, it, 0 to 2), house(19, it, 0 to 2), says(), carry(8, it, 0 to 2), cream(5, 14, it), above, below; "
            + "pusey() 0 to 2, weaned(), spare(NONE), spare(0), never(), years(7, 6, 0 and 1);");
        int[] feeds = {0, 0, 0, 6, 0, 1, 6, 1, 2, 3, 3, 1, 19, 4, 0, 14, 2, 3, 2, 3, 2, 8, 1, 3};
        String members = "p4567;t7654;i1357;p8642;t5055";
        String cows = "w5678;r3456;w9009;r0990";
        String[][] texts = {{"", ""}, {members, ""}, {"", cows}, {members, cows}, {members + ";", cows}, {members, cows + ";"}};
        for (String[] text : texts) {
            due("no feeds", college(text[0], text[1]).digest(), twin(text[0], text[1]).digest());
            DairyCollege x = college(text[0], text[1], feeds);
            Oracle y = twin(text[0], text[1], feeds);
            due("eight feeds", x.digest(), y.digest());
            for (int n = 0; n < 8; n++) {
                x.seen(n, n % 5, n % 4, n);
                y.seen(n, n % 5, n % 4, n);
            }
            due("eight seen", x.digest(), y.digest());
            due("again", x.digest(), y.digest());
        }
        // Here some are weaned, two feeds can be spared, and years of five, six and seven feeds are unlike.
        String fewer = "p8471;t7765;t1751";
        String milk = "r9154;w9908;w7352;w7697";
        int[] more = {6, 0, 2, 6, 0, 3, 2, 1, 2, 1, 1, 3, 17, 2, 0, 2, 2, 2, 2, 1, 1, 4, 1, 0};
        due("some weaned", college(fewer, milk, more).digest(), twin(fewer, milk, more).digest());
        for (int seed = 0; seed < 300; seed++) {
            DairyCollege x = chance(seed);
            due("by the seed " + seed, x.digest(), fold(x));
        }
        DairyCollege asked = college("t1377", "r1376;r3895;r2156", 0, 0, 0, 3, 0, 1, 0, 0, 2);
        due("another term than 0 to ask of", asked.digest(), fold(asked));
        DairyCollege z = college(EIGHT_MEMBERS, EIGHT_COWS, feeds);
        due("eight of each", z.digest(), twin(EIGHT_MEMBERS, EIGHT_COWS, feeds).digest());
    }

    /** What is told of no things at all by hand: long enough that it wraps. */
    private void digestWraps() {
        of("Promise 36: digest", "h is 17; h becomes 31 h and each of");
        BigInteger h = BigInteger.valueOf(17);
        int[] question = {0, 0, 0, 0, 0, 0, -1, -1, -1, -1, 0, 1};
        int[] row = new int[10 + 4 * question.length + 9];
        row[8] = -1;
        row[9] = -1;
        for (int i = 0; i < 4 * question.length; i++) {
            row[10 + i] = question[i % question.length];
        }
        int[] rest = {-1, -1, -1, 0, 0, -1, 0, 0, 0};
        System.arraycopy(rest, 0, row, row.length - rest.length, rest.length);
        for (int v : row) {
            h = h.multiply(BigInteger.valueOf(31)).add(BigInteger.valueOf(v));
        }
        due("digest of a new one", new DairyCollege().digest(), h.longValue());
        of("Promise 36: digest", "as longs that wrap.");
        check.holds("it is longer than a long", h.bitLength() > 64);
        DairyCollege x = new DairyCollege();
        x.sheet(0, 2, 60);
        x.put(0, 2, 0, 9);
        x.lose(1);
        due("sheets and findings are not told", x.digest(), h.longValue());
    }

    private void refusalsInOrder() {
        of(TERMS, "Refusals, the first that fits, in the order told at each act: BAD -2 (a number not as told, no such thing), "
            + "NULL, NOT -3 (as told), FULL -4, other FINDINGS.");
        due("type, BAD ahead of FULL", full().type(0, -1), BAD);
        due("feed, BAD ahead of FULL", full().feed(0, -1, 0), BAD);
        due("seen, BAD ahead of FULL", full().seen(0, 0, 4, 0), BAD);
        due("undo, BAD ahead of NOT", new DairyCollege().undo(2), BAD);
        due("read, BAD ahead of NULL", new DairyCollege().read(4), BAD);
        due("write, BAD ahead of NULL", new DairyCollege().write(0, 0, 0), BAD);
        due("put, BAD ahead of NULL", new DairyCollege().put(0, 3, 0, 0), BAD);
        due("put, NULL ahead of CAST", full().put(2, 0, 9, 0), NULL);
        due("put, CAST ahead of INDEX", full().put(1, 0, 9, 0), CAST);
        due("copy, BAD ahead of NULL", new DairyCollege().copy(0, 0, 4, 0, 0), BAD);
        due("copy, NULL ahead of INDEX", full().copy(0, -1, 2, 0, 0), NULL);
        due("copy, STORE ahead of INDEX", full().copy(0, -1, 1, 0, 0), STORE);
        due("sheet, BAD ahead of SIZE", full().sheet(0, 3, -1), BAD);
        due("member, no such thing", college("p0000", "").member(1, 0), BAD);
        due("cow, no such thing", college("", "r0000").cow(1, 0), BAD);
        of(TERMS, "They change nothing (FINDINGS but count() 8).");
        dueRefused("back", DairyCollege::new, DairyCollege::back, NOT);
        dueRefused("undo", DairyCollege::new, x -> x.undo(0), NOT);
        dueRefused("type", this::full, x -> x.type(1, 'w'), FULL);
        dueRefused("feed", this::full, x -> x.feed(19, 7, 7), FULL);
        dueRefused("seen", this::full, x -> x.seen(19, 7, 3, 9), FULL);
        dueRefused("power", this::full, x -> x.power(8, 0, 0), LONG_BAD);
        dueRefused("copy", this::full, x -> x.copy(0, 0, 0, 1, 3), INDEX);
        dueRefused("write", this::full, x -> x.write(0, 0, 2), NULL);
    }

    private void refusalsOfLongs() {
        of(TERMS, "Where the answer is a long, a refusal -x is the least long and x more.");
        due("power", new DairyCollege().power(0, 0, 0), -9223372036854775806L);
        due("cream", new DairyCollege().cream(0, 0, 0, 2), -9223372036854775806L);
    }
}
