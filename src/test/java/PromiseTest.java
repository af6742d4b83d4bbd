/** Every promise of the document by hand: what is ordinary, its edges, and what it refuses. */
public final class PromiseTest extends Bench {
    private PromiseTest() {
        super(new Check("PromiseTest"));
    }

    // ---- members, cows, feeds

    private void newObject() {
        check.promise("1 a new object");
        DairyCollege x = new DairyCollege();
        for (int what = 0; what <= 8; what++) {
            due("count(" + what + ")", x.count(what), 0);
        }
        for (int s = 0; s < 4; s++) {
            due("lose(" + s + ")", x.lose(s), NULL);
        }
        due("NONE", DairyCollege.NONE, -1);
        due("BAD", DairyCollege.BAD, -2);
        due("NOT", DairyCollege.NOT, -3);
        due("FULL", DairyCollege.FULL, -4);
    }

    private void type() {
        check.promise("2 type");
        for (int text = 0; text < 2; text++) {
            DairyCollege x = new DairyCollege();
            due("type", x.type(text, 0), 1);
            due("type", x.type(text, 255), 2);
            due("type", x.type(text, 256), BAD);
            due("type", x.type(text, -1), BAD);
            for (int n = 3; n <= 47; n++) {
                due("type", x.type(text, 'p'), n);
            }
            due("type the 48th", x.type(text, 'p'), FULL);
            due("type a bad 48th", x.type(text, 256), BAD);
            due("its bytes", x.count(2 + text), 47);
            due("the other's bytes", x.count(3 - text), 0);
            due("type(-1)", x.type(-1, 'p'), BAD);
            due("type(2)", x.type(2, 'p'), BAD);
        }
    }

    private void wipe() {
        check.promise("3 wipe");
        DairyCollege x = college("p1234;t", "w1234");
        due("wipe(2)", x.wipe(2), BAD);
        due("wipe(-1)", x.wipe(-1), BAD);
        due("wipe(0)", x.wipe(0), 7);
        due("wipe(0)", x.wipe(0), 0);
        due("fault(0)", x.fault(0), NONE);
        due("count(1)", x.count(1), 1);
        due("wipe(1)", x.wipe(1), 5);
        due("count(1)", x.count(1), 0);
    }

    private void undo() {
        check.promise("4 undo");
        DairyCollege x = college("p1234;", "w");
        due("fault(0)", x.fault(0), 6);
        due("undo(0)", x.undo(0), 5);
        due("fault(0)", x.fault(0), NONE);
        due("count(0)", x.count(0), 1);
        due("undo(0)", x.undo(0), 4);
        due("count(0)", x.count(0), 0);
        due("undo(1)", x.undo(1), 0);
        due("undo(1)", x.undo(1), NOT);
        due("undo(2)", x.undo(2), BAD);
        due("undo(-1)", x.undo(-1), BAD);
    }

    private void dueFault(int text, String s, int want) {
        DairyCollege x = new DairyCollege();
        typeAll(x, text, s);
        due("fault of '" + s + "'", x.fault(text), want);
        due("things of '" + s + "'", x.count(text), want == NONE ? (s.length() + 1) / 6 : 0);
    }

    private void fault() {
        check.promise("5 fault");
        for (int text = 0; text < 2; text++) {
            String a = text == 0 ? "p" : "w";
            String b = text == 0 ? "i" : "r";
            dueFault(text, "", NONE);
            dueFault(text, a, 1);
            dueFault(text, a + "012", 4);
            dueFault(text, a + "0123", NONE);
            dueFault(text, a + "01234", 5);
            dueFault(text, a + "0123;", 6);
            dueFault(text, a + "0123;;", 6);
            dueFault(text, a + "0123;" + b + "9876", NONE);
            dueFault(text, a + "0123" + b, 5);
            dueFault(text, a + "01/3", 3);
            dueFault(text, a + "01:3;", 3);
            dueFault(text, a + a, 1);
            dueFault(text, ";", 0);
            dueFault(text, a.toUpperCase(), 0);
            dueFault(text, text == 0 ? "w0000" : "p0000", 0);
            dueFault(text, text == 0 ? "r" : "t", 0);
            dueFault(text, (a + "0000;").repeat(7) + b + "9999", NONE);
            dueFault(text, (a + "0000;").repeat(7) + b + "999", 46);
        }
        dueFault(0, "t0000", NONE);
        DairyCollege x = new DairyCollege();
        due("fault(2)", x.fault(2), BAD);
        due("fault(-1)", x.fault(-1), BAD);
    }

    private void member() {
        check.promise("6 member");
        DairyCollege x = college("p0123;t9876;i5059", "");
        int[][] wants = {{0, 0, 1, 2, 3}, {1, 9, 8, 7, 6}, {2, 5, 0, 5, 9}};
        for (int m = 0; m < 3; m++) {
            for (int what = 0; what < 5; what++) {
                due("member(" + m + ", " + what + ")", x.member(m, what), wants[m][what]);
            }
        }
        due("member(3, 0)", x.member(3, 0), BAD);
        due("member(-1, 0)", x.member(-1, 0), BAD);
        due("member(0, 5)", x.member(0, 5), BAD);
        due("member(0, -1)", x.member(0, -1), BAD);
        x.type(0, ';');
        due("member(0, 0) with a fault", x.member(0, 0), BAD);
        due("at with a fault", x.at(0, 0, 0, 0), BAD);
    }

    private void cow() {
        check.promise("7 cow");
        DairyCollege x = college("", "w0123;r9876");
        int[][] wants = {{1, 0, 1, 2, 3}, {0, 9, 8, 7, 6}};
        for (int c = 0; c < 2; c++) {
            for (int what = 0; what < 5; what++) {
                due("cow(" + c + ", " + what + ")", x.cow(c, what), wants[c][what]);
            }
        }
        due("cow(2, 0)", x.cow(2, 0), BAD);
        due("cow(-1, 0)", x.cow(-1, 0), BAD);
        due("cow(0, 5)", x.cow(0, 5), BAD);
        due("cow(0, -1)", x.cow(0, -1), BAD);
    }

    private void feed() {
        check.promise("8 feed");
        DairyCollege x = new DairyCollege();
        due("feed(20, 0, 0)", x.feed(20, 0, 0), BAD);
        due("feed(-1, 0, 0)", x.feed(-1, 0, 0), BAD);
        due("feed(0, 8, 0)", x.feed(0, 8, 0), BAD);
        due("feed(0, -1, 0)", x.feed(0, -1, 0), BAD);
        due("feed(0, 0, 8)", x.feed(0, 0, 8), BAD);
        due("feed(0, 0, -1)", x.feed(0, 0, -1), BAD);
        due("count(4)", x.count(4), 0);
        for (int n = 1; n <= 8; n++) {
            due("feed(19, 7, 7)", x.feed(19, 7, 7), n);
        }
        due("feed, the ninth", x.feed(0, 0, 0), FULL);
        due("feed, a bad ninth", x.feed(0, 0, 8), BAD);
        due("count(4)", x.count(4), 8);
    }

    private void back() {
        check.promise("9 back");
        DairyCollege x = college("p5555", "r6666;r7777", 9, 0, 0, 3, 0, 1, 3, 0, 1);
        dueAt(x, 3, 0, 0, 7, 7, 7, 7);
        due("back", x.back(), 2);
        dueAt(x, 3, 0, 0, 6, 6, 6, 6);
        due("back", x.back(), 1);
        dueAt(x, 3, 0, 0, 5, 5, 5, 5);
        dueAt(x, 9, 0, 2, 6, 6, 6, 6);
        due("back", x.back(), 0);
        due("back", x.back(), NOT);
        dueAt(x, 19, 0, 0, 5, 5, 5, 5);
    }

    private void read() {
        check.promise("10 read");
        DairyCollege x = college("p5555", "r6666");
        due("read(4)", x.read(4), BAD);
        due("read(-1)", x.read(-1), BAD);
        due("count(8)", x.count(8), 0);
        due("read(0)", x.read(0), NULL);
        due("count(8)", x.count(8), 1);
        x.sheet(0, 1, 8);
        x.put(0, 1, 0, 4);
        x.put(0, 1, 6, 1);
        due("read(0), two whole ones of eight items", x.read(0), 2);
        due("count(4)", x.count(4), 2);
        due("at(0) once fed", x.at(0, 0, 0, 0), 6);
        due("able(4) twice fed", x.able(4, 0, 0), 5);
        x.sheet(1, 2, 60);
        x.put(1, 2, 5, 8);
        due("read(1) up to a bad one", x.read(1), 1);
        x.put(1, 2, 5, 0);
        due("read(1) up to a full house", x.read(1), 5);
        due("read(1) of a full house", x.read(1), 0);
        due("count(4)", x.count(4), 8);
        x.sheet(2, 0, 2);
        due("read(2), none whole", x.read(2), 0);
        x.sheet(2, 0, 0);
        due("read(2), no items", x.read(2), 0);
    }

    // ---- terms

    /** Feeds in another order than their terms; two in one term; of a member and a cow that are not there. */
    private DairyCollege fed() {
        return college("p5050;t0505;i4444", "r8888;w9191",
            5, 0, 1, 3, 0, 0, 3, 0, 1, 4, 1, 1, 4, 2, 0, 6, 2, 1, 0, 3, 0, 0, 0, 2);
    }

    private void at() {
        check.promise("11 at");
        DairyCollege x = fed();
        dueAt(x, 2, 0, 0, 5, 0, 5, 0);
        dueAt(x, 2, 0, 1, 5, 0, 5, 0);
        dueAt(x, 2, 0, 2, 5, 0, 5, 0);
        dueAt(x, 2, 0, 3, 1, 0, 1, 0);
        dueAt(x, 3, 0, 0, 7, 1, 7, 1);
        dueAt(x, 3, 0, 1, 5, 0, 5, 0);
        dueAt(x, 3, 0, 2, 9, 1, 9, 1);
        dueAt(x, 19, 0, 0, 8, 1, 8, 1);
        dueAt(x, 3, 1, 0, 0, 5, 0, 5);
        dueAt(x, 4, 1, 0, 0, 3, 0, 3);
        dueAt(x, 4, 1, 1, 0, 1, 0, 1);
        dueAt(x, 4, 1, 2, 0, 5, 0, 5);
        dueAt(x, 4, 1, 3, 0, 0, 0, 0);
        dueAt(x, 19, 2, 0, 4, 4, 4, 4);
        dueAt(x, 5, 2, 1, 4, 4, 4, 4);
        dueAt(x, 5, 2, 2, 8, 8, 8, 8);
        dueAt(x, 6, 2, 1, 4, 1, 4, 1);
        dueAt(x, 6, 2, 2, 9, 8, 9, 8);
        int[][] bads = {{20, 0, 0, 0}, {-1, 0, 0, 0}, {0, 3, 0, 0}, {0, -1, 0, 0}, {0, 0, 4, 0}, {0, 0, -1, 0}, {0, 0, 0, 4}, {0, 0, 0, -1}};
        for (int[] b : bads) {
            due("a bad at", x.at(b[0], b[1], b[2], b[3]), BAD);
        }
        check.promise("11 at, no farther than it is there");
        DairyCollege y = college("t5555", "r6543", 0, 0, 0);
        dueAt(y, 0, 0, 0, 6, 5, 4, 3);
        dueAt(y, 0, 0, 1, 5, 5, 4, 3);
        dueAt(y, 0, 0, 2, 6, 5, 5, 5);
    }

    private void able() {
        check.promise("12 able");
        DairyCollege x = fed();
        dueAble(x, 2, 0, 3, 0, 1);
        dueAble(x, 3, 0, 4, 2, 1);
        dueAble(x, 4, 0, 4, 2, 1);
        dueAble(x, 5, 0, 5, 2, 0);
        dueAble(x, 19, 1, 2, 2, 1);
        dueAble(x, 4, 2, 6, 0, 1);
        dueAble(x, 19, 2, 7, 0, 1);
        int[][] bads = {{20, 0, 0}, {-1, 0, 0}, {0, 3, 0}, {0, -1, 0}, {0, 0, 3}, {0, 0, -1}};
        for (int[] b : bads) {
            due("a bad able", x.able(b[0], b[1], b[2]), BAD);
        }
        check.promise("12 able, at most 9");
        DairyCollege y = college("i5555", "r5555", 0, 0, 0, 1, 0, 0, 2, 0, 0, 3, 0, 0, 4, 0, 0, 5, 0, 0);
        due("able", y.able(3, 0, 0), 9);
        due("able", y.able(5, 0, 0), 9);
        check.promise("12 able, the reach of each sort, raw and warmed");
        String[] sorts = {"p0000", "t0000", "i0000"};
        int[] reaches = {3, 2, 5};
        for (int k = 0; k < 3; k++) {
            int far = reaches[k];
            due("raw", college(sorts[k], "r" + far + "000", 0, 0, 0).able(0, 0, 1), 0);
            due("raw, beyond", college(sorts[k], "r" + (far + 1) + "000", 0, 0, 0).able(0, 0, 1), 1);
            due("warmed", college(sorts[k], "w" + (far + 2) + "000", 0, 0, 0).able(0, 0, 1), 0);
            due("warmed, beyond", college(sorts[k], "w" + (far + 3) + "000", 0, 0, 0).able(0, 0, 1), 1);
        }
    }

    private void house() {
        check.promise("13 house");
        DairyCollege x = college("p5504;p5504;p4504;p4545", "r5555", 2, 2, 0, 3, 3, 0);
        dueHouse(x, 1, 0, 2, 0, 12);
        dueHouse(x, 2, 0, 3, 1, 7);
        dueHouse(x, 3, 0, 4, 1, 0);
        dueHouse(x, 0, 1, 4, 1, 0);
        dueHouse(x, 0, 2, 0, 0, 0);
        dueHouse(x, 0, 3, 1, 0, 0);
        due("house(20)", x.house(20, 0, 0), BAD);
        due("house(-1)", x.house(-1, 0, 0), BAD);
        due("house q 4", x.house(0, 4, 0), BAD);
        due("house q -1", x.house(0, -1, 0), BAD);
        due("house what 3", x.house(0, 0, 3), BAD);
        due("house what -1", x.house(0, 0, -1), BAD);
        dueHouse(new DairyCollege(), 0, 0, 0, 0, 0);
    }

    private void pusey() {
        check.promise("14 pusey");
        DairyCollege x = college("p0000;i1411", "r1011;r1911", 7, 1, 0);
        duePusey(x, NONE, NONE, NONE);
        x.feed(9, 1, 1);
        duePusey(x, 9, 1, 1);
        due("pusey(3)", x.pusey(3), BAD);
        due("pusey(-1)", x.pusey(-1), BAD);
        DairyCollege y = college("i4444;i4444", "r0000;r9999", 2, 1, 0, 2, 1, 1, 2, 0, 0, 2, 0, 1);
        duePusey(y, 2, 0, 0);
        y.feed(1, 1, 0);
        y.feed(1, 1, 1);
        duePusey(y, 1, 1, 0);
        DairyCollege z = college("i4444", "r4044;r4944;r0444;r9444", 3, 0, 0, 3, 0, 1, 3, 0, 2, 3, 0, 3);
        duePusey(z, 3, 0, 0);
        z.back();
        duePusey(z, 3, 0, 1);
    }

    private void weaned() {
        check.promise("15 weaned");
        DairyCollege x = college("p5555;t5555;i5555;t5555", "r7555", 1, 1, 0, 19, 3, 0, 2, 1, 0);
        due("weaned", x.weaned(), 0);
        x.wipe(1);
        typeAll(x, 1, "w9555");
        due("weaned", x.weaned(), 2);
        x.feed(19, 3, 0);
        due("weaned", x.weaned(), 10);
        due("count(5)", x.count(5), 2);
    }

    private void says() {
        check.promise("16 says");
        DairyCollege x = college("p5005;p0505;p5555", "r4444");
        due("says(0)", x.says(0), 1);
        due("says(1)", x.says(1), 0);
        due("says(2)", x.says(2), NONE);
        due("says(3)", x.says(3), NONE);
        x.feed(19, 0, 0);
        due("says(3) behind term 19", x.says(3), 0);
        due("says(0), when the ayes have it no more", x.says(0), NONE);
        due("says(4)", x.says(4), BAD);
        due("says(-1)", x.says(-1), BAD);
        due("says(0), no members", new DairyCollege().says(0), NONE);
    }

    private void power() {
        check.promise("17 power");
        DairyCollege x = college("p1000;p1000;p1000", "r2000;r4000");
        duePower(x, 0, 0, 1, 3);
        x.feed(19, 0, 0);
        duePower(x, 0, 0, 2, 3);
        duePower(x, 1, 0, 1, 6);
        duePower(x, 2, 0, 1, 6);
        duePower(x, 2, 1, 1, 3);
        x.feed(0, 2, 1);
        duePower(x, 2, 0, 1, 1);
        duePower(x, 0, 0, 0, 1);
        due("power(3)", x.power(3, 0, 0), LONG_BAD);
        due("power(-1)", x.power(-1, 0, 0), LONG_BAD);
        due("power q 4", x.power(0, 4, 0), LONG_BAD);
        due("power q -1", x.power(0, -1, 0), LONG_BAD);
        due("power what 2", x.power(0, 0, 2), LONG_BAD);
        due("power what -1", x.power(0, 0, -1), LONG_BAD);
        DairyCollege y = college("p1000;p1000;p1000;p1000;p1000;p1000;p1000;p1000", "");
        duePower(y, 7, 3, 1, 8);
        duePower(college("p1000", ""), 0, 0, 1, 1);
        duePower(college("p1000;p1000", "r2000", 0, 1, 0), 1, 0, 1, 1);
    }

    // ---- plans

    private void rear() {
        check.promise("18 rear");
        DairyCollege x = college("p0000;p3000", "r4000;r0000;r1000");
        dueRear(x, 0, 0, 0, 0, NONE, NONE);
        dueRear(x, 0, 0, 1, 1, 2, NONE);
        dueRear(x, 0, 0, 4, 2, 1, 0);
        dueRear(x, 0, 0, 5, NONE, NONE, NONE);
        dueRear(x, 1, 0, 4, 1, 0, NONE);
        dueRear(x, 1, 0, 2, 1, 1, NONE);
        dueRear(x, 0, 3, 1, NONE, NONE, NONE);
        x.feed(19, 0, 2);
        dueRear(x, 0, 0, 1, 0, NONE, NONE);
        dueRear(x, 0, 0, 4, 1, 0, NONE);
        for (int i = 0; i < 7; i++) {
            x.feed(19, 7, 7);
        }
        dueRear(x, 0, 0, 4, 1, 0, NONE);
        due("count(4)", x.count(4), 8);
        int[][] bads = {{2, 0, 0, 0}, {-1, 0, 0, 0}, {0, 4, 0, 0}, {0, -1, 0, 0}, {0, 0, 10, 0}, {0, 0, -1, 0}, {0, 0, 0, 2}, {0, 0, 0, -2}};
        for (int[] b : bads) {
            due("a bad rear", x.rear(b[0], b[1], b[2], b[3]), BAD);
        }
        dueRear(college("p5000", ""), 0, 0, 5, 0, NONE, NONE);
        dueRear(college("p5000", ""), 0, 0, 6, NONE, NONE, NONE);
    }

    private void carry() {
        check.promise("19 carry");
        DairyCollege x = college("i4000;p4000;p4000", "r4000;r5000;r6000");
        dueCarry(x, 0, 0, 1, 1, 1);
        dueCarry(x, 0, 1, 0, 0, 0);
        x.feed(0, 1, 1);
        dueCarry(x, 19, 0, 2, 1, 2);
        for (int i = 0; i < 7; i++) {
            x.feed(0, 0, 0);
        }
        dueCarry(x, 19, 0, 2, 1, 2);
        due("count(4)", x.count(4), 8);
        check.promise("19 carry, behind all others of the term, ahead of those of later ones");
        DairyCollege y = college("p4000", "r5000;r3000", 3, 0, 1);
        dueCarry(y, 2, 0, 0, 0, 0);
        dueCarry(y, 3, 0, 0, 0, 0);
        DairyCollege z = college("t4000", "r5000;r3000", 3, 0, 1);
        dueCarry(z, 2, 0, 0, 0, 0);
        dueCarry(z, 3, 0, 0, 0, 1);
        check.promise("19 carry, even if it is worse");
        dueCarry(college("p5000", "w4000"), 0, 0, 0, 0, 0);
        check.promise("19 carry, none to feed, none to be fed of");
        dueCarry(college("p5000", ""), 0, 0, NONE, NONE, NONE);
        dueCarry(college("", "w4000"), 0, 0, NONE, NONE, NONE);
        int[][] bads = {{20, 0, 0}, {-1, 0, 0}, {0, 4, 0}, {0, -1, 0}, {0, 0, 3}, {0, 0, -1}};
        for (int[] b : bads) {
            due("a bad carry", x.carry(b[0], b[1], b[2]), BAD);
        }
    }

    private void spare() {
        check.promise("20 spare");
        DairyCollege x = college("t0000;t0000;t0000", "w4000", 0, 7, 0, 0, 0, 0);
        dueSpare(x, 0, NONE, NONE);
        x.feed(0, 0, 0);
        dueSpare(x, 1, 1, NONE);
        x.feed(0, 1, 0);
        x.feed(0, 1, 0);
        dueSpare(x, 2, 1, 3);
        x.feed(0, 2, 0);
        x.feed(0, 2, 0);
        dueSpare(x, NONE, NONE, NONE);
        due("spare(2)", x.spare(2), BAD);
        due("spare(-2)", x.spare(-2), BAD);
        dueSpare(college("", "", 0, 0, 0), 0, NONE, NONE);
    }

    // ---- seen, cream, years

    private void seen() {
        check.promise("21 seen");
        DairyCollege x = new DairyCollege();
        int[][] bads = {{20, 0, 0, 0}, {-1, 0, 0, 0}, {0, 8, 0, 0}, {0, -1, 0, 0}, {0, 0, 4, 0}, {0, 0, -1, 0}, {0, 0, 0, 10}, {0, 0, 0, -1}};
        for (int[] b : bads) {
            due("a bad seen", x.seen(b[0], b[1], b[2], b[3]), BAD);
        }
        for (int n = 1; n <= 8; n++) {
            due("seen", x.seen(19, 7, 3, 9), n);
        }
        due("seen, the ninth", x.seen(0, 0, 0, 0), FULL);
        due("seen, a bad ninth", x.seen(0, 0, 0, 10), BAD);
        due("count(7)", x.count(7), 8);
        check.promise("22 forget");
        due("forget", x.forget(), 8);
        due("forget", x.forget(), 0);
        due("count(7)", x.count(7), 0);
    }

    private void never() {
        check.promise("23 never");
        DairyCollege x = college("p5555;p5555", "r6666", 2, 0, 0, 4, 0, 0, 3, 1, 0);
        due("never, none seen", x.never(), 7);
        x.seen(3, 0, 0, 5);
        due("never", x.never(), 1);
        x.seen(4, 0, 1, 6);
        due("never", x.never(), 1);
        x.seen(19, 1, 0, 5);
        due("never", x.never(), 0);
        x.forget();
        x.seen(3, 1, 0, 5);
        due("never", x.never(), 4);
        x.forget();
        x.seen(0, 2, 0, 0);
        due("never of one that there is not", x.never(), 0);
        due("never, no feeds", new DairyCollege().never(), 0);
    }

    private void sort() {
        check.promise("24 sort");
        DairyCollege x = college("p5555;t5555", "r8555", 2, 0, 0, 2, 1, 0);
        due("sort(0)", x.sort(0), 7);
        x.seen(2, 0, 0, 6);
        due("sort(0), plain alone", x.sort(0), 1);
        due("sort(1)", x.sort(1), 7);
        x.forget();
        x.seen(2, 0, 0, 5);
        due("sort(0), tender is sick, iron does not go", x.sort(0), 6);
        due("sort(1), what was seen of another is not so", x.sort(1), 0);
        x.forget();
        x.seen(1, 2, 0, 5);
        due("sort of one seen that there is not", x.sort(0), 0);
        due("sort(2)", x.sort(2), BAD);
        due("sort(-1)", x.sort(-1), BAD);
    }

    private void first() {
        check.promise("25 first");
        DairyCollege x = college("t5555;p5555", "r5555", 2, 0, 0);
        due("first(0, 0)", x.first(0, 0), 1023);
        x.seen(2, 0, 0, 5);
        due("first(0, 0)", x.first(0, 0), 1 << 3 | 1 << 4 | 1 << 5 | 1 << 6 | 1 << 7);
        due("first(0, 1)", x.first(0, 1), 1023);
        due("first(1, 0)", x.first(1, 0), 1023);
        x.seen(1, 0, 0, 7);
        due("first(0, 0)", x.first(0, 0), 1 << 7);
        due("first(1, 0)", x.first(1, 0), 0);
        due("first(2, 0)", x.first(2, 0), BAD);
        due("first(-1, 0)", x.first(-1, 0), BAD);
        due("first(0, 4)", x.first(0, 4), BAD);
        due("first(0, -1)", x.first(0, -1), BAD);
    }

    /**
     * The third question, at first 0 to 9: by the feeds of term 0 those of 3 on all hold 5, seven alike;
     * those of 5 on have by then the stomach for 9 in term 3 and go to 7, those of 3 and 4 have not: five alike.
     */
    private void ask() {
        check.promise("26 ask");
        DairyCollege x = college("t1377", "r1376;r3895;r2156", 0, 0, 0, 3, 0, 1, 0, 0, 2);
        due("ask(0, 2)", x.ask(0, 2), 3);
        x.seen(0, 0, 2, 2);
        due("ask(0, 2), one left", x.ask(0, 2), 0);
        due("first(0, 2)", x.first(0, 2), 4);
        x.forget();
        x.seen(3, 0, 2, 3);
        due("ask(0, 2), none left", x.ask(0, 2), 0);
        due("first(0, 2)", x.first(0, 2), 0);
        x.forget();
        x.seen(2, 0, 2, 5);
        due("ask(0, 2), seven left", x.ask(0, 2), 3);
        due("ask(1, 0)", x.ask(1, 0), BAD);
        due("ask(-1, 0)", x.ask(-1, 0), BAD);
        due("ask(0, 4)", x.ask(0, 4), BAD);
        due("ask(0, -1)", x.ask(0, -1), BAD);
    }

    private void cream() {
        check.promise("27 cream");
        DairyCollege x = college("p4000", "r5000", 3, 0, 0);
        dueCream(x, 5, 3, 0, 5, 16);
        dueCream(x, 8, 19, 0, 1, 2);
        dueCream(x, 16, 3, 0, 1, 1);
        dueCream(x, 0, 3, 0, 0, 1);
        dueCream(x, 5, 2, 0, 0, 1);
        dueCream(x, 5, 3, 1, 0, 1);
        DairyCollege y = college("p4000;p4000;p4000", "r5000", 0, 0, 0, 1, 1, 0, 2, 2, 0, 0, 7, 0, 0, 0, 7);
        dueCream(y, 8, 2, 0, 1, 2);
        dueCream(y, 4, 2, 0, 5, 32);
        dueCream(y, 4, 1, 0, 1, 16);
        DairyCollege z = college("t9000", "w3000", 0, 0, 0, 0, 0, 0, 0, 0, 0, 0, 0, 0, 0, 0, 0, 0, 0, 0, 0, 0, 0, 0, 0, 0);
        dueCream(z, 15, 0, 0, 1, 1);
        DairyCollege w = college("p4000", "r5000", 0, 0, 0, 0, 0, 0, 0, 0, 0, 0, 0, 0, 0, 0, 0, 0, 0, 0, 0, 0, 0, 0, 0, 0);
        dueCream(w, 1, 0, 0, (1L << 32) - 15L * 15 * 15 * 15 * 15 * 15 * 15 * 15, 1L << 32);
        dueCream(new DairyCollege(), 4, 0, 0, 0, 1);
        int[][] bads = {{17, 0, 0, 0}, {-1, 0, 0, 0}, {0, 20, 0, 0}, {0, -1, 0, 0}, {0, 0, 4, 0}, {0, 0, -1, 0}, {0, 0, 0, 2}, {0, 0, 0, -1}};
        for (int[] b : bads) {
            due("a bad cream", x.cream(b[0], b[1], b[2], b[3]), LONG_BAD);
        }
    }

    private void years() {
        check.promise("28 years");
        DairyCollege x = college("p0000", "r9999", 0, 0, 0);
        due("years(1, 0, 1)", x.years(1, 0, 1), 0);
        due("years(1, 8, 1)", x.years(1, 8, 1), 32);
        due("years(1, 8, 0)", x.years(1, 8, 0), 0);
        DairyCollege y = college("t0000", "w4000");
        due("years(5, 1, 0)", y.years(5, 1, 0), 0);
        due("years(5, 2, 0)", y.years(5, 2, 0), 1);
        due("years(5, 9, 0)", y.years(5, 9, 0), BAD);
        due("years(5, -1, 0)", y.years(5, -1, 0), BAD);
        due("years(5, 1, 2)", y.years(5, 1, 2), BAD);
        due("years(5, 1, -1)", y.years(5, 1, -1), BAD);
        due("count(4)", y.count(4), 0);
        due("years, no cows", college("p0000", "").years(1, 8, 1), 0);
        due("years, no members", college("", "r9999").years(1, 8, 1), 0);
        check.promise("28 years, lots by a seed below 0");
        Oracle oracle = new Oracle();
        String members = "p0918;t2736;i4554";
        String cows = "w9090;r1234;r4321";
        DairyCollege z = college(members, cows);
        oracle.texts[0].append(members);
        oracle.texts[1].append(cows);
        for (int seed = -40; seed < 40; seed++) {
            due("years(" + seed * 99991 + ", 8, 0)", z.years(seed * 99991, 8, 0), oracle.years(seed * 99991, 8, 0));
            due("years(" + seed * 99991 + ", 7, 1)", z.years(seed * 99991, 7, 1), oracle.years(seed * 99991, 7, 1));
        }
    }

    // ---- sheets

    private void sheet() {
        check.promise("29 sheet");
        DairyCollege x = new DairyCollege();
        due("sheet(0, 0, 60)", x.sheet(0, 0, 60), 60);
        due("sheet(3, 2, 0)", x.sheet(3, 2, 0), 0);
        due("sheet(4, 0, 1)", x.sheet(4, 0, 1), BAD);
        due("sheet(-1, 0, 1)", x.sheet(-1, 0, 1), BAD);
        due("sheet(0, 3, 1)", x.sheet(0, 3, 1), BAD);
        due("sheet(0, -1, 1)", x.sheet(0, -1, 1), BAD);
        due("sheet(0, 0, 61)", x.sheet(0, 0, 61), BAD);
        due("sheet(4, 0, -1)", x.sheet(4, 0, -1), BAD);
        due("count(8)", x.count(8), 0);
        due("sheet(0, 0, -1)", x.sheet(0, 0, -1), SIZE);
        due("sheet, the least int", x.sheet(0, 0, Integer.MIN_VALUE), SIZE);
        due("count(8)", x.count(8), 5);
        x.put(0, 0, 59, 7);
        due("get(0, 0, 59)", x.get(0, 0, 59), 7);
        due("a refused one leaves the row", x.lose(0), 60);
        due("sheet(0, 1, 60)", x.sheet(0, 1, 60), 60);
        due("a new one is 0", x.get(0, 1, 59), 0);
        x.put(0, 1, 3, 9);
        due("sheet(0, 1, 2)", x.sheet(0, 1, 2), 2);
        due("sheet(0, 1, 4)", x.sheet(0, 1, 4), 4);
        due("a new one is 0", x.get(0, 1, 3), 0);
    }

    private void lose() {
        check.promise("30 lose");
        DairyCollege x = new DairyCollege();
        x.sheet(2, 1, 17);
        due("lose(4)", x.lose(4), BAD);
        due("lose(-1)", x.lose(-1), BAD);
        due("lose(2)", x.lose(2), 17);
        due("count(8)", x.count(8), 0);
        due("lose(2)", x.lose(2), NULL);
        due("count(8)", x.count(8), 1);
        x.sheet(2, 1, 0);
        due("lose(2), no items", x.lose(2), 0);
    }

    private void putAndGet() {
        check.promise("31 put, 32 get");
        DairyCollege x = new DairyCollege();
        int[] values = {0, -1, 127, 128, 255, 256, -129, 32767, 32768, 65536, Integer.MAX_VALUE, Integer.MIN_VALUE + 1};
        for (int form = 0; form < 3; form++) {
            x.sheet(form, form, 3);
            for (int v : values) {
                due("put " + v, x.put(form, form, 2, v), 1);
                due("get " + v, x.get(form, form, 2), form == 0 ? (byte) v : form == 1 ? (short) v : v);
            }
        }
        due("put(4)", x.put(4, 0, 0, 0), BAD);
        due("put(-1)", x.put(-1, 0, 0, 0), BAD);
        due("put form 3", x.put(3, 3, 0, 0), BAD);
        due("put form -1", x.put(0, -1, 0, 0), BAD);
        due("get(4)", x.get(4, 0, 0), NO_ITEM);
        due("get form 3", x.get(0, 3, 0), NO_ITEM);
        due("get form -1", x.get(0, -1, 0), NO_ITEM);
        due("count(8)", x.count(8), 0);
        due("put of a lost one", x.put(3, 0, 99, 0), NULL);
        due("put of another form", x.put(0, 1, 99, 0), CAST);
        due("count(8)", x.count(8), 3);
        due("put(3)", x.put(0, 0, 3, 0), INDEX);
        due("put(-1)", x.put(0, 0, -1, 0), INDEX);
        due("count(8)", x.count(8), 2);
        due("get of a lost one", x.get(3, 0, 99), NO_ITEM);
        due("count(8)", x.count(8), 1);
        due("get of another form", x.get(2, 0, 99), NO_ITEM);
        due("count(8)", x.count(8), 3);
        due("get(3)", x.get(0, 0, 3), NO_ITEM);
        due("count(8)", x.count(8), 2);
        due("get(-1)", x.get(0, 0, -1), NO_ITEM);
    }

    private void copy() {
        check.promise("33 copy");
        DairyCollege x = new DairyCollege();
        x.sheet(0, 2, 5);
        x.sheet(1, 2, 3);
        x.sheet(2, 1, 5);
        for (int i = 0; i < 5; i++) {
            x.put(0, 2, i, 10 + i);
        }
        due("copy", x.copy(0, 2, 1, 0, 3), 1);
        dueItems(x, 1, 2, 12, 13, 14);
        due("copy on itself, upwards", x.copy(0, 0, 0, 1, 4), 1);
        dueItems(x, 0, 2, 10, 10, 11, 12, 13);
        due("copy on itself, downwards", x.copy(0, 2, 0, 0, 3), 1);
        dueItems(x, 0, 2, 11, 12, 13, 12, 13);
        due("copy, none, at the ends", x.copy(0, 5, 1, 3, 0), 1);
        due("count(8)", x.count(8), 0);
        due("copy(4)", x.copy(4, 0, 0, 0, 0), BAD);
        due("copy to 4", x.copy(0, 0, 4, 0, 0), BAD);
        due("copy(-1)", x.copy(-1, 0, 3, 0, 0), BAD);
        due("copy of a lost one", x.copy(3, 0, 0, -1, 0), NULL);
        due("copy to a lost one", x.copy(0, 0, 3, 0, -1), NULL);
        due("copy of unlike forms", x.copy(0, -1, 2, 0, 1), STORE);
        due("count(8)", x.count(8), 4);
        int big = Integer.MAX_VALUE;
        int[][] bads = {{-1, 0, 1}, {0, -1, 1}, {0, 0, -1}, {3, 0, 3}, {0, 1, 3}, {6, 0, 0}, {0, 4, 0},
            {1, 0, big}, {big, 0, 1}, {0, big, 1}, {big, big, big}, {-1, 0, 0}, {0, -1, 0}};
        for (int[] b : bads) {
            due("copy beyond", x.copy(0, b[0], 1, b[1], b[2]), INDEX);
        }
        dueItems(x, 1, 2, 12, 13, 14);
    }

    private void write() {
        check.promise("34 write");
        DairyCollege x = fed();
        x.sheet(0, 0, 4);
        x.sheet(1, 2, 22);
        for (int i = 0; i < 22; i++) {
            x.put(1, 2, i, 77);
        }
        due("write(0, 0, 0)", x.write(0, 0, 0), 4);
        dueItems(x, 0, 0, 5, 5, 5, 7);
        due("write(0, 0, 1)", x.write(0, 0, 1), 20);
        dueItems(x, 1, 2, 5, 5, 5, 7, 7, 8, 8, 8, 8, 8, 8, 8, 8, 8, 8, 8, 8, 8, 8, 8, 77, 77);
        due("write(1, 3, 0)", x.write(1, 3, 0), 4);
        dueItems(x, 0, 0, 5, 5, 5, 5);
        due("write(1, 3, 1)", x.write(1, 3, 1), 20);
        dueItems(x, 1, 2, 5, 5, 5, 5, 3, 3);
        due("write(3)", x.write(3, 0, 0), BAD);
        due("write(-1)", x.write(-1, 0, 0), BAD);
        due("write q 4", x.write(0, 4, 0), BAD);
        due("write q -1", x.write(0, -1, 0), BAD);
        due("write to 4", x.write(0, 0, 4), BAD);
        due("write to -1", x.write(0, 0, -1), BAD);
        due("count(8)", x.count(8), 0);
        due("write to a lost one", x.write(0, 0, 2), NULL);
        due("count(8)", x.count(8), 1);
        x.sheet(2, 1, 0);
        due("write to no items", x.write(0, 0, 2), 0);
    }

    private void count() {
        check.promise("35 count");
        DairyCollege x = fed();
        x.seen(0, 0, 0, 0);
        x.lose(0);
        int[] wants = {3, 2, 17, 11, 8, 1, 4, 1, 1};
        for (int what = 0; what < wants.length; what++) {
            due("count(" + what + ")", x.count(what), wants[what]);
        }
        due("count(9)", x.count(9), BAD);
        due("count(-1)", x.count(-1), BAD);
        x.sheet(0, 0, 1);
        due("count(8) stays", x.count(8), 1);
    }

    private void digest() {
        check.promise("36 digest");
        int[] question = {0, 0, 0, 0, 0, 0, -1, -1, -1, -1, 0, 1};
        long h = 17;
        for (int i = 0; i < 8; i++) {
            h = 31 * h;
        }
        h = 31 * (31 * h - 1) - 1;
        for (int q = 0; q < 4; q++) {
            for (int v : question) {
                h = 31 * h + v;
            }
        }
        int[] rest = {-1, -1, -1, 0, 0, -1, 0, 0, 0};
        for (int v : rest) {
            h = 31 * h + v;
        }
        DairyCollege x = new DairyCollege();
        due("digest of a new object", x.digest(), h);
        x.lose(0);
        due("digest does not tell of findings", x.digest(), h);
        DairyCollege y = fed();
        Oracle oracle = new Oracle();
        oracle.texts[0].append("p5050;t0505;i4444");
        oracle.texts[1].append("r8888;w9191");
        int[][] feeds = {{5, 0, 1}, {3, 0, 0}, {3, 0, 1}, {4, 1, 1}, {4, 2, 0}, {6, 2, 1}, {0, 3, 0}, {0, 0, 2}};
        for (int[] f : feeds) {
            oracle.feed(f[0], f[1], f[2]);
        }
        due("digest", y.digest(), oracle.digest());
        due("digest, again the same", y.digest(), oracle.digest());
        y.seen(3, 0, 0, 7);
        oracle.seen(3, 0, 0, 7);
        due("digest, with one seen", y.digest(), oracle.digest());
    }

    private void run() {
        newObject();
        type();
        wipe();
        undo();
        fault();
        member();
        cow();
        feed();
        back();
        read();
        at();
        able();
        house();
        pusey();
        weaned();
        says();
        power();
        rear();
        carry();
        spare();
        seen();
        never();
        sort();
        first();
        ask();
        cream();
        years();
        sheet();
        lose();
        putAndGet();
        copy();
        write();
        count();
        digest();
        check.end();
    }

    public static void main(String[] args) {
        new PromiseTest().run();
    }
}
