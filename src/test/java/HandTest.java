/** Promises 21 to 24: hand, onward, pass, undo. */
public final class HandTest {
    private static final Checks CHECKS = new Checks();

    private static void due(String call, long want, long got) {
        CHECKS.due(call, want, got);
    }

    public static void main(String[] args) {
        handing();
        handingTwo();
        refusedHanding();
        tiredAtMost();
        onward();
        days();
        daysOfEight();
        undoing();
        undoKeepsSixteen();
        undoLeavesTheRest();
        whatEndsUndoing();
        CHECKS.close("HandTest");
    }

    private static TearPost post() {
        TearPost x = new TearPost();
        x.reader(3, 0);
        x.reader(0, 0);
        return x;
    }

    private static void handing() {
        TearPost x = post();
        x.letter(10, 10, 1, 0, 0);
        x.letter(4, 5, 1, 0, 0);
        x.letter(9, 0, 1, 1, 0);
        due("hand(0), joke not above grief", 30, x.hand(0, -1));
        due("count(13)", 30, x.count(13));
        due("paid by reader 0", 30, x.of(0, 5));
        due("tired", 5, x.of(0, 2));
        due("had", 1, x.of(0, 3));
        due("owed", 0, x.of(0, 4));
        due("read", 1, x.at(0, 5));
        due("paid for it", 30, x.at(0, 6));
        due("hand(1), laughed at", 0, x.hand(1, -1));
        due("a laugh is not owed", 0, x.of(0, 4));
        due("tired by what one laughs at", 7, x.of(0, 2));
        due("had", 2, x.of(0, 3));
        due("hand(2), a hard reader", 0, x.hand(2, -1));
        due("owed", 1, x.of(1, 4));
        due("tired", 4, x.of(1, 2));
        due("paid for it", 0, x.at(2, 6));
    }

    private static void handingTwo() {
        TearPost x = post();
        x.letter(10, 2, 7, 0, 0);
        x.letter(5, 9, 2, 0, 1);
        x.letter(3, 0, 1, 1, 0);
        x.letter(4, 0, 1, 1, 0);
        x.letter(1, 9, 1, 0, 0);
        x.letter(1, 0, 1, 0, 0);
        due("hand(1, 0)", 45, x.hand(1, 0));
        due("the first one's part, 45 * 2 / 9", 10, x.at(1, 6));
        due("the rest", 35, x.at(0, 6));
        due("tired by 15 / 2", 7, x.of(0, 2));
        due("had", 2, x.of(0, 3));
        due("read", 1, x.at(0, 5) * x.at(1, 5));
        due("office", 45, x.count(13));
        due("hand(2, 3)", 0, x.hand(2, 3));
        due("owed once", 1, x.of(1, 4));
        due("had", 2, x.of(1, 3));
        due("hand(4, 5), laughed at", 0, x.hand(4, 5));
        due("owed", 0, x.of(0, 4));
        due("paid for them", 0, x.at(4, 6) + x.at(5, 6));
        TearPost y = post();
        y.letter(3, 0, 9, 0, 0);
        y.letter(3, 0, 4, 0, 0);
        Checks.rule(y, "weeps 12;tires tired+had+1");
        due("hand(0, 1)", 12, y.hand(0, 1));
        due("cut part of 12 * 9 / 13", 8, y.at(0, 6));
        due("the rest", 4, y.at(1, 6));
        due("tires asked as ahead of it", 1, y.of(0, 2));
    }

    private static void refusedHanding() {
        TearPost x = post();
        x.reader(3, 2);
        x.letter(9, 0, 1, 0, 0);
        x.letter(9, 0, 1, 0, 0);
        x.letter(9, 0, 1, 1, 0);
        x.letter(9, 0, 1, 2, 0);
        due("no such letter", -2, x.hand(4, -1));
        due("no such letter -1", -2, x.hand(-1, -1));
        due("no such other", -2, x.hand(0, 4));
        due("other -2", -2, x.hand(0, -2));
        due("no such other, ahead of what can't be", -2, x.hand(3, 9));
        due("the same one", -3, x.hand(0, 0));
        due("for two readers", -3, x.hand(0, 2));
        due("no road", -3, x.hand(3, -1));
        x.road(1, 2);
        due("no way by roads", -3, x.hand(3, -1));
        x.road(1, 0);
        due("a way", 27, x.hand(3, -1));
        due("read already", -3, x.hand(3, -1));
        x.hand(0, -1);
        due("the first is read", -3, x.hand(0, 1));
        due("the other is read", -3, x.hand(1, 0));
        Checks.rule(x, "bars if had=1");
        due("barred", -3, x.hand(1, -1));
        due("not barred", 0, x.hand(2, -1));
        due("count(5): only what was done", 3, x.count(5));
        due("held still", 0, x.at(1, 5));
    }

    private static void tiredAtMost() {
        TearPost x = post();
        x.letter(30, 0, 1, 0, 0);
        x.tire(0, 990);
        due("hand", 0, x.hand(0, -1));
        due("tired 999 at most", 999, x.of(0, 2));
        due("owed", 1, x.of(0, 4));
    }

    private static void onward() {
        TearPost x = post();
        x.letter(4, 0, 5, 0, 1);
        x.letter(3, 0, 1, 0, 0);
        x.letter(0, 0, 1, 1, 0);
        due("not read", -3, x.onward(0, 1));
        due("no such letter", -2, x.onward(3, 1));
        due("no such reader", -2, x.onward(0, 2));
        due("no such reader -1", -2, x.onward(0, -1));
        due("hand(0)", 12, x.hand(0, -1));
        due("hand(1)", 7, x.hand(1, -1));
        due("the same reader", -3, x.onward(0, 0));
        due("below ink 10", -3, x.onward(1, 1));
        due("onward(0, 1)", 3, x.onward(0, 1));
        int[] want = {3, 0, 5, 1, 1, 0, 0};
        for (int k = 0; k < want.length; k++) {
            due("at(0, " + k + ")", want[k], x.at(0, k));
        }
        due("office keeps", 19, x.count(13));
        due("reader keeps", 19, x.of(0, 5));
        due("had keeps", 2, x.of(0, 3));
        due("held again", 2, x.count(3));
        due("held, not read", -3, x.onward(0, 0));
        x.terms(1, 7);
        due("ink 7 is enough for 7", 2, x.onward(1, 1));
        Checks.rule(x, "weeps 50");
        x.hand(2, -1);
        due("grief 0 at least", 0, x.onward(2, 0));
        due("handed once more", 50, x.hand(2, -1));
        due("paid by the other one", 69, x.of(0, 5));
    }

    private static void days() {
        TearPost x = post();
        x.tire(0, 10);
        x.tire(1, 2);
        due("pass()", 1, x.pass());
        due("tired 0", 7, x.of(0, 2));
        due("tired 1, 0 at least", 0, x.of(1, 2));
        Checks.rule(x, "rests day+1 if reader=0");
        due("pass()", 2, x.pass());
        due("rests asked in the day that ends", 5, x.of(0, 2));
        x.terms(0, 998);
        due("pass() to 999", 999, x.pass());
        due("pass() behind 999", -3, x.pass());
        due("count(14)", 999, x.count(14));
        due("undo()", 2, x.undo());
        due("count(14)", 998, x.count(14));
    }

    private static void daysOfEight() {
        TearPost x = new TearPost();
        for (int k = 0; k < 8; k++) {
            x.reader(9, 0);
            x.letter(20, 0, 1, k, 0);
            x.hand(k, -1);
            x.tire(k, 20 + k);
        }
        due("pass()", 1, x.pass());
        for (int k = 0; k < 8; k++) {
            due("tired " + k, 17 + k, x.of(k, 2));
            due("had " + k, 1, x.of(k, 3));
            due("paid " + k, 180, x.of(k, 5));
        }
    }

    private static void undoing() {
        TearPost x = post();
        x.letter(10, 0, 3, 0, 0);
        x.letter(10, 0, 3, 0, 0);
        due("undo() of nothing", -3, x.undo());
        x.hand(0, 1);
        x.onward(1, 1);
        x.pass();
        due("count(5)", 3, x.count(5));
        due("undo() of pass()", 2, x.undo());
        due("tired", 10, x.of(0, 2));
        due("day", 0, x.count(14));
        due("undo() of onward()", 1, x.undo());
        due("grief", 10, x.at(1, 0));
        due("reader", 0, x.at(1, 3));
        due("read", 1, x.at(1, 5));
        due("paid", 30, x.at(1, 6));
        due("undo() of hand()", 0, x.undo());
        for (int what = 2; what <= 5; what++) {
            due("of(0, " + what + ")", 0, x.of(0, what));
        }
        due("read", 0, x.at(0, 5) + x.at(1, 5));
        due("paid", 0, x.at(0, 6) + x.at(1, 6));
        due("office", 0, x.count(13));
        due("undo() of nothing more", -3, x.undo());
        x.hand(0, -1);
        x.hand(0, -1);
        due("a refused hand() can't be undone", 1, x.count(5));
    }

    private static void undoKeepsSixteen() {
        TearPost x = post();
        for (int k = 0; k < 18; k++) {
            x.pass();
        }
        due("count(5)", 16, x.count(5));
        for (int k = 0; k < 16; k++) {
            due("undo()", 2, x.undo());
        }
        due("undo() of a 17th", -3, x.undo());
        due("day", 2, x.count(14));
    }

    private static void undoLeavesTheRest() {
        TearPost x = post();
        x.letter(10, 0, 3, 0, 0);
        x.hand(0, -1);
        x.road(1, 2);
        x.ledger(0, 55);
        Checks.rule(x, "weeps 5");
        x.season(1, 3);
        x.image(0);
        due("undo()", 0, x.undo());
        due("roads stay", 1, x.count(0));
        due("ledgers stay", 55, x.of(0, 6));
        due("laws stay", 1, x.count(4));
        due("force stays", 0, x.count(12));
        due("held again", 0, x.at(0, 5));
    }

    private static void whatEndsUndoing() {
        TearPost x = post();
        x.letter(10, 0, 3, 0, 0);
        x.pass();
        x.reader(10, 0);
        x.tire(9, 0);
        x.letter(10, 0, 3, 9, 0);
        x.terms(9, 0);
        due("refused calls end nothing", 1, x.count(5));
        x.mow();
        x.road(0, 1);
        x.mow();
        x.force(-1);
        x.feed(0, 0, 0, 0, 0);
        due("nor do these", 1, x.count(5));
        x.tire(0, 0);
        due("tire()", 0, x.count(5));
        x.pass();
        x.terms(2, 0);
        due("terms()", -3, x.undo());
        x.pass();
        x.letter(1, 1, 1, 0, 0);
        due("letter()", -3, x.undo());
        x.pass();
        x.reader(1, 0);
        due("reader()", -3, x.undo());
        x.pass();
        x.row();
        due("row()", -3, x.undo());
    }
}
