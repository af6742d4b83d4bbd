/** What the tests by hand share: colleges made of texts and feeds, and rows of answers that are due. */
abstract class Bench {
    static final int NONE = -1, BAD = -2, NOT = -3, FULL = -4;
    static final int NULL = -11, INDEX = -12, CAST = -13, STORE = -14, SIZE = -15;
    static final int NO_ITEM = Integer.MIN_VALUE, LEAST_INT = Integer.MIN_VALUE, MOST_INT = Integer.MAX_VALUE;
    static final long LONG_BAD = Long.MIN_VALUE + 2;

    final Check check;

    Bench(Check check) {
        this.check = check;
    }

    final DairyCollege college(String members, String cows, int... feeds) {
        DairyCollege x = new DairyCollege();
        typeAll(x, 0, members);
        typeAll(x, 1, cows);
        for (int i = 0; i < feeds.length; i += 3) {
            due("feed", x.feed(feeds[i], feeds[i + 1], feeds[i + 2]), i / 3 + 1);
        }
        return x;
    }

    /** Types behind an empty text. */
    final void typeAll(DairyCollege x, int text, String s) {
        for (int i = 0; i < s.length(); i++) {
            due("type", x.type(text, s.charAt(i)), i + 1);
        }
    }

    final void retype(DairyCollege x, int text, String s) {
        x.wipe(text);
        typeAll(x, text, s);
    }

    final void due(String call, long got, long want) {
        check.due(call, got, want);
    }

    final void dueAt(DairyCollege x, int term, int member, int what, int... wants) {
        for (int q = 0; q < 4; q++) {
            due("at(" + term + ", " + member + ", " + q + ", " + what + ")", x.at(term, member, q, what), wants[q]);
        }
    }

    final void dueAble(DairyCollege x, int term, int member, int... wants) {
        for (int what = 0; what < 3; what++) {
            due("able(" + term + ", " + member + ", " + what + ")", x.able(term, member, what), wants[what]);
        }
    }

    final void dueHouse(DairyCollege x, int term, int question, int... wants) {
        for (int what = 0; what < 3; what++) {
            due("house(" + term + ", " + question + ", " + what + ")", x.house(term, question, what), wants[what]);
        }
    }

    final void duePusey(DairyCollege x, int term, int member, int question) {
        due("pusey(0)", x.pusey(0), term);
        due("pusey(1)", x.pusey(1), member);
        due("pusey(2)", x.pusey(2), question);
    }

    final void duePower(DairyCollege x, int member, int question, long above, long below) {
        due("power(" + member + ", " + question + ", 0)", x.power(member, question, 0), above);
        due("power(" + member + ", " + question + ", 1)", x.power(member, question, 1), below);
    }

    /** How many, the first, the second. */
    final void dueRear(DairyCollege x, int member, int question, int side, int... wants) {
        for (int i = -1; i < 2; i++) {
            due("rear(" + member + ", " + question + ", " + side + ", " + i + ")", x.rear(member, question, side, i), wants[i + 1]);
        }
    }

    /** The member, the cow, how many. */
    final void dueCarry(DairyCollege x, int term, int question, int... wants) {
        for (int what = 0; what < 3; what++) {
            due("carry(" + term + ", " + question + ", " + what + ")", x.carry(term, question, what), wants[what]);
        }
    }

    /** How many, the first, the second. */
    final void dueSpare(DairyCollege x, int... wants) {
        for (int i = -1; i < 2; i++) {
            due("spare(" + i + ")", x.spare(i), wants[i + 1]);
        }
    }

    final void dueCream(DairyCollege x, int c, int term, int question, long above, long below) {
        String call = "cream(" + c + ", " + term + ", " + question + ", ";
        due(call + "0)", x.cream(c, term, question, 0), above);
        due(call + "1)", x.cream(c, term, question, 1), below);
    }

    final void dueItems(DairyCollege x, int s, int form, int... wants) {
        for (int i = 0; i < wants.length; i++) {
            due("get(" + s + ", " + form + ", " + i + ")", x.get(s, form, i), wants[i]);
        }
    }
}
