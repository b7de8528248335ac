/** Promises 1 to 9, 37, 38: a new object, roads, readers, letters, terms, what is counted, why a call was refused. */
public final class PeopleTest {
    private static final Checks CHECKS = new Checks();

    private static void due(String call, long want, long got) {
        CHECKS.due(call, want, got);
    }

    public static void main(String[] args) {
        newObject();
        roads();
        readers();
        tired();
        letters();
        terms();
        refusals();
        CHECKS.close("PeopleTest");
    }

    private static void newObject() {
        TearPost x = new TearPost();
        int[] want = {0, 0, 0, 0, 0, 0, 0, 0, 0, 0, 0, 0, -1, 0, 0, 10, 0};
        for (int k = 0; k < want.length; k++) {
            due("count(" + k + ") of a new object", want[k], x.count(k));
        }
        due("count(17)", -1, x.count(17));
        due("count(-1)", -1, x.count(-1));
        due("status() ahead of any", 0, x.status());
        due("blots() ahead of any", 0, x.blots());
        due("fault() ahead of any", -1, x.fault());
        due("stopped() ahead of any", -1, x.stopped());
        due("drawn() ahead of any", -1, x.drawn(0, 0));
        due("of() without readers", -1, x.of(0, 0));
        due("at() without letters", -1, x.at(0, 0));
    }

    private static void roads() {
        TearPost x = new TearPost();
        due("mow() without roads", -3, x.mow());
        due("status()", -3, x.status());
        due("road(3, 3)", -1, x.road(3, 3));
        due("road(-1, 3)", -1, x.road(-1, 3));
        due("road(3, -1)", -1, x.road(3, -1));
        due("road(8, 3)", -1, x.road(8, 3));
        due("road(3, 8)", -1, x.road(3, 8));
        for (int k = 0; k < 12; k++) {
            due("road " + k + ", the same two towns may have many", k, x.road(7, 0));
        }
        due("a 13th road", -5, x.road(0, 1));
        due("a 13th road that can't be", -1, x.road(1, 1));
        due("mow()", 11, x.mow());
        due("count(0)", 11, x.count(0));
        due("road(0, 1)", 11, x.road(0, 1));
    }

    private static void readers() {
        TearPost x = new TearPost();
        due("reader(-1, 0)", -1, x.reader(-1, 0));
        due("reader(10, 0)", -1, x.reader(10, 0));
        due("reader(0, -1)", -1, x.reader(0, -1));
        due("reader(0, 8)", -1, x.reader(0, 8));
        for (int k = 0; k < 8; k++) {
            due("reader " + k, k, x.reader(9 - k, 7 - k));
        }
        due("a 9th reader", -5, x.reader(1, 1));
        due("a 9th reader that can't be", -1, x.reader(1, 9));
        due("count(1)", 8, x.count(1));
        int[] want = {7, 5, 0, 0, 0, 0, -1};
        for (int k = 0; k < want.length; k++) {
            due("of(2, " + k + ")", want[k], x.of(2, k));
        }
        due("of(2, 7)", -1, x.of(2, 7));
        due("of(2, -1)", -1, x.of(2, -1));
        due("of(8, 0)", -1, x.of(8, 0));
        due("of(-1, 0)", -1, x.of(-1, 0));
    }

    private static void tired() {
        TearPost x = new TearPost();
        due("tire() of no one", -2, x.tire(0, 5));
        due("tire() of no one, a number that can't be", -1, x.tire(0, -1));
        x.reader(1, 0);
        due("tire(0, 999)", 0, x.tire(0, 999));
        due("tire(0, 1000)", -1, x.tire(0, 1000));
        due("tire(1, 5)", -2, x.tire(1, 5));
        due("tire(-1, 5)", -2, x.tire(-1, 5));
        due("tire(0, 4)", 999, x.tire(0, 4));
        due("of(0, 2)", 4, x.of(0, 2));
    }

    private static void letters() {
        TearPost x = new TearPost();
        due("a letter for no one", -2, x.letter(1, 1, 1, 0, 0));
        x.reader(1, 0);
        due("grief -1", -1, x.letter(-1, 1, 1, 0, 0));
        due("grief 31", -1, x.letter(31, 1, 1, 0, 0));
        due("joke -1", -1, x.letter(1, -1, 1, 0, 0));
        due("joke 31", -1, x.letter(1, 31, 1, 0, 0));
        due("weight 0", -1, x.letter(1, 1, 0, 0, 0));
        due("weight 10", -1, x.letter(1, 1, 10, 0, 0));
        due("sender -1", -1, x.letter(1, 1, 1, 0, -1));
        due("sender 2", -1, x.letter(1, 1, 1, 0, 2));
        due("reader 1", -2, x.letter(1, 1, 1, 1, 0));
        due("reader -1", -2, x.letter(1, 1, 1, -1, 0));
        due("reader 99, sender 2", -1, x.letter(1, 1, 1, 99, 2));
        for (int k = 0; k < 12; k++) {
            due("letter " + k, k, x.letter(30 - k, k, 9, 0, k % 2));
        }
        due("a 13th letter", -5, x.letter(1, 1, 1, 0, 0));
        due("a 13th letter for no one", -2, x.letter(1, 1, 1, 1, 0));
        int[] want = {27, 3, 9, 0, 1, 0, 0};
        for (int k = 0; k < want.length; k++) {
            due("at(3, " + k + ")", want[k], x.at(3, k));
        }
        due("at(3, 7)", -1, x.at(3, 7));
        due("at(3, -1)", -1, x.at(3, -1));
        due("at(12, 0)", -1, x.at(12, 0));
        due("at(-1, 0)", -1, x.at(-1, 0));
        due("count(2)", 12, x.count(2));
        due("count(3)", 12, x.count(3));
        x.hand(0, 1);
        due("count(3) behind a handing of two", 10, x.count(3));
    }

    private static void terms() {
        TearPost x = new TearPost();
        due("terms(-1, 1)", -1, x.terms(-1, 1));
        due("terms(3, 1)", -1, x.terms(3, 1));
        due("terms(0, -1)", -1, x.terms(0, -1));
        due("terms(0, 1000)", -1, x.terms(0, 1000));
        due("terms(1, 0)", -1, x.terms(1, 0));
        due("terms(1, 100)", -1, x.terms(1, 100));
        due("terms(2, -1)", -1, x.terms(2, -1));
        due("terms(2, 10)", -1, x.terms(2, 10));
        due("terms(0, 999)", 0, x.terms(0, 999));
        due("terms(1, 99)", 10, x.terms(1, 99));
        due("terms(2, 9)", 0, x.terms(2, 9));
        due("count(14)", 999, x.count(14));
        due("count(15)", 99, x.count(15));
        due("count(16)", 9, x.count(16));
        due("terms(1, 1)", 99, x.terms(1, 1));
    }

    private static void refusals() {
        TearPost x = new TearPost();
        x.road(1, 1);
        x.road(1, 1);
        x.tire(0, 0);
        x.mow();
        x.mow();
        x.mow();
        x.row();
        due("count(7)", 2, x.count(7));
        due("count(8)", 1, x.count(8));
        due("count(9)", 3, x.count(9));
        due("count(10)", 0, x.count(10));
        due("count(11)", 1, x.count(11));
        due("status()", -6, x.status());
        x.of(9, 9);
        x.feed(0, 0, 0, 0, 0);
        x.end(99);
        x.asks(0, 0, 0);
        x.rests(5);
        x.order(5, 5);
        x.game(5, 5);
        x.joked(99);
        x.way(9);
        x.cut(9, 9);
        x.bags(0, 0);
        x.drawn(9, 9);
        due("status(): these calls are not among those that are refused", -6, x.status());
        due("count(7)", 2, x.count(7));
        x.ledger(0, -2);
        due("ledger", -1, x.status());
        x.force(-1);
        due("force(-1) answers -1 and is not refused", 0, x.status());
        x.back(0);
        due("back", -2, x.status());
        x.image(0);
        due("image", 0, x.status());
        x.season(0, 0);
        due("season", -1, x.status());
        x.undo();
        due("undo", -3, x.status());
        x.pass();
        due("pass", 0, x.status());
        x.onward(0, 0);
        due("onward", -2, x.status());
        x.hand(0, 0);
        due("hand", -2, x.status());
        Checks.orders(x, "x");
        due("orders", -6, x.status());
        Checks.law(x, "laughs");
        due("law", 0, x.status());
        x.letter(99, 0, 0, 0, 0);
        due("letter", -1, x.status());
        x.reader(0, 0);
        due("reader", 0, x.status());
        x.terms(9, 9);
        due("terms", -1, x.status());
        x.tire(0, 0);
        due("tire", 0, x.status());
    }
}
