import java.util.function.Consumer;
import java.util.function.Supplier;
import java.util.function.ToIntFunction;

/** All promises that tell of refusals: a refused call leaves all as it was, but what the document says it changes. */
final class EdgesOfRefusals {
    private static final int[] CODES = {-1, -2, -3, -5, -6};

    private final Sentences doc;

    EdgesOfRefusals(Sentences doc) {
        this.doc = doc;
    }

    void all() {
        numbersThatCannotBe();
        thereIsNoSuch();
        whatStands();
        ordersThatCannotBe();
        noRoom();
        noLaw();
        textsAndRows();
        whatIsNone();
    }

    private void refused(int promise, String name, int code, ToIntFunction<TearPost> call) {
        refused(promise, name, code, Looks::lived, call);
    }

    private void refused(int promise, String name, int code, Supplier<TearPost> made, ToIntFunction<TearPost> call) {
        TearPost twin = made.get();
        refused(promise, name, code, made.get(), call, twin);
    }

    /**
     * A post has a call refused; its twin, that has lived alike, has not: all that can be asked of them is compared.
     * What the document says that the call changes all the same is done to the twin, or not asked.
     */
    private void refused(int promise, String name, int code, TearPost x, ToIntFunction<TearPost> call, TearPost twin,
            String... but) {
        int[] before = new int[CODES.length];
        for (int k = 0; k < CODES.length; k++) {
            before[k] = x.count(7 + k);
        }
        String of = "promise " + promise + ", " + name;
        doc.due(of, code, call.applyAsInt(x));
        doc.due("status() behind " + of, code, x.status());
        for (int k = 0; k < CODES.length; k++) {
            doc.due("count(" + (7 + k) + ") behind " + of, before[k] + (CODES[k] == code ? 1 : 0), x.count(7 + k));
        }
        same(of, x, twin, but);
    }

    private void same(String call, TearPost x, TearPost twin, String... but) {
        String differs = Looks.difference(x, twin, but);
        doc.due("whether all is as it was behind " + call + " (" + differs + ")", 1, differs.isEmpty() ? 1 : 0);
    }

    private static Supplier<TearPost> livedAnd(Consumer<TearPost> more) {
        return () -> {
            TearPost x = Looks.lived();
            more.accept(x);
            return x;
        };
    }

    private void numbersThatCannotBe() {
        doc.says(38, "-1 a number that can't be;");
        refused(2, "road(3, 3)", -1, x -> x.road(3, 3));
        refused(2, "road(-1, 3)", -1, x -> x.road(-1, 3));
        refused(2, "road(3, 8)", -1, x -> x.road(3, 8));
        refused(4, "reader(10, 0)", -1, x -> x.reader(10, 0));
        refused(4, "reader(0, 8)", -1, x -> x.reader(0, 8));
        refused(5, "tire(0, 1000)", -1, x -> x.tire(0, 1000));
        refused(5, "tire(0, -1)", -1, x -> x.tire(0, -1));
        refused(7, "letter(31, 0, 1, 0, 0)", -1, x -> x.letter(31, 0, 1, 0, 0));
        refused(7, "letter(0, -1, 1, 0, 0)", -1, x -> x.letter(0, -1, 1, 0, 0));
        refused(7, "letter(0, 0, 10, 0, 0)", -1, x -> x.letter(0, 0, 10, 0, 0));
        refused(7, "letter(0, 0, 1, 0, 2)", -1, x -> x.letter(0, 0, 1, 0, 2));
        refused(9, "terms(0, 1000)", -1, x -> x.terms(0, 1000));
        refused(9, "terms(1, 0)", -1, x -> x.terms(1, 0));
        refused(9, "terms(2, 10)", -1, x -> x.terms(2, 10));
        refused(9, "terms(3, 1)", -1, x -> x.terms(3, 1));
        refused(27, "ledger(0, 100000)", -1, x -> x.ledger(0, 100000));
        refused(27, "ledger(0, -2)", -1, x -> x.ledger(0, -2));
        refused(33, "season(1000001, 1)", -1, x -> x.season(1000001, 1));
        refused(33, "season(9, 61)", -1, x -> x.season(9, 61));
        refused(35, "image(2)", -1, x -> x.image(2));
        refused(36, "back(2)", -1, x -> x.back(2));
    }

    private void thereIsNoSuch() {
        doc.says(38, "-2 there is no such READER, LETTER, LAW, IMAGE;");
        refused(5, "tire(3, 5)", -2, x -> x.tire(3, 5));
        refused(7, "letter(0, 0, 1, 3, 0)", -2, x -> x.letter(0, 0, 1, 3, 0));
        refused(18, "force(2)", -2, x -> x.force(2));
        refused(18, "force(-2)", -2, x -> x.force(-2));
        refused(21, "hand(6, -1)", -2, x -> x.hand(6, -1));
        refused(21, "hand(1, 6)", -2, x -> x.hand(1, 6));
        refused(22, "onward(6, 0)", -2, x -> x.onward(6, 0));
        refused(22, "onward(0, 3)", -2, x -> x.onward(0, 3));
        refused(27, "ledger(3, 5)", -2, x -> x.ledger(3, 5));
        refused(36, "back(1)", -2, x -> x.back(1));
    }

    /** A post whose letters are gone by back(), and yet there was a season, and there is a day that can be undone. */
    private static TearPost withoutLetters() {
        TearPost x = new TearPost();
        x.reader(3, 0);
        x.image(0);
        x.letter(10, 0, 1, 0, 0);
        x.season(7, 5);
        x.back(0);
        x.pass();
        return x;
    }

    private void whatStands() {
        doc.says(38, "-3 it can't be by what stands;");
        refused(3, "mow()", -3, livedAnd(x -> {
            x.mow();
            x.mow();
            x.mow();
        }), TearPost::mow);
        refused(21, "hand(1, 1)", -3, x -> x.hand(1, 1));
        refused(21, "hand(1, 2)", -3, x -> x.hand(1, 2));
        refused(21, "hand(4, -1), out of reach", -3, x -> x.hand(4, -1));
        refused(21, "hand(5, -1), barred", -3, x -> x.hand(5, -1));
        refused(21, "hand(2, -1), read", -3, livedAnd(x -> x.hand(2, -1)), x -> x.hand(2, -1));
        refused(22, "onward(1, 1), held", -3, x -> x.onward(1, 1));
        refused(22, "onward(2, 1), the same reader", -3, livedAnd(x -> x.hand(2, -1)), x -> x.onward(2, 1));
        refused(22, "onward(3, 0), below ink", -3, livedAnd(x -> x.hand(3, -1)), x -> x.onward(3, 0));
        refused(23, "pass()", -3, livedAnd(x -> x.terms(0, 999)), TearPost::pass);
        refused(24, "undo()", -3, livedAnd(x -> x.tire(0, 5)), TearPost::undo);
        refused(33, "season(5, 5)", -3, EdgesOfRefusals::withoutLetters, x -> x.season(5, 5));
    }

    private void ordersThatCannotBe() {
        doc.says(15, "One that can't be (a BROKEN SUM, as hand(), pass() are REFUSED) ends it: all is as it was ahead of it.");
        for (String text : new String[] {"hand 9", "pass;hand 1;hand 2 with 2", "hand 1;hand 2;pass times 20;pass times 20;hand 1/0"}) {
            TearPost x = Looks.lived();
            TearPost twin = Looks.lived();
            Checks.tape(x, text);
            twin.end(0);
            refused(15, "orders() of '" + text + "'", -3, x, TearPost::orders, twin, "fault()", "stopped()");
        }
    }

    private void noRoom() {
        doc.says(38, "-5 no room;");
        refused(2, "road(6, 7)", -5, livedAnd(x -> {
            for (int k = 3; k < 12; k++) {
                x.road(4, 5);
            }
        }), x -> x.road(6, 7));
        refused(4, "reader(1, 1)", -5, livedAnd(x -> {
            for (int k = 3; k < 8; k++) {
                x.reader(4, 5);
            }
            x.pass();
        }), x -> x.reader(1, 1));
        refused(7, "letter(1, 1, 1, 1, 1)", -5, livedAnd(x -> {
            for (int k = 6; k < 12; k++) {
                x.letter(4, 5, 6, 1, 0);
            }
            x.pass();
        }), x -> x.letter(1, 1, 1, 1, 1));
    }

    private void noLaw() {
        doc.says(14, "-5 (ahead of reading it; the TAPE is empty then, too);");
        for (String text : new String[] {"weeps 77", "weeps", ""}) {
            TearPost x = withSixLaws();
            TearPost twin = withSixLaws();
            Checks.tape(x, text);
            twin.end(0);
            refused(14, "law() of '" + text + "'", -5, x, TearPost::law, twin);
        }
    }

    private static TearPost withSixLaws() {
        TearPost x = Looks.lived();
        for (int k = 2; k < 6; k++) {
            Checks.law(x, "weeps " + k);
        }
        Checks.orders(x, "pass;pass pass");
        return x;
    }

    private void textsAndRows() {
        doc.says(38, "-6 a TEXT, a ROW that can't be.");
        refused(12, "row()", -6, livedAnd(x -> x.end(0)), TearPost::row);
        for (String text : new String[] {"weeps", "laughs;bars;x", "hand", "pass;hand 1;x", "", "  "}) {
            TearPost x = Looks.lived();
            TearPost y = Looks.lived();
            TearPost twin = Looks.lived();
            TearPost twinOfY = Looks.lived();
            Checks.tape(x, text);
            Checks.tape(y, text);
            twin.end(0);
            twinOfY.end(0);
            refused(14, "law() of '" + text + "'", -6, x, TearPost::law, twin, "fault()");
            refused(15, "orders() of '" + text + "'", -6, y, TearPost::orders, twinOfY, "fault()", "stopped()");
        }
    }

    /** Calls that answer NONE, NOTHING, and are not among those that are refused: they leave all as it was, too. */
    private void whatIsNone() {
        doc.says(38, "0 if it was not, or ahead of any.");
        TearPost x = Looks.lived();
        TearPost twin = Looks.lived();
        x.of(3, 0);
        x.of(0, 7);
        x.at(6, 0);
        x.at(0, 7);
        Checks.tape(x, new int[381]);
        x.feed(1, 1, 1, 1, 1);
        Checks.tape(twin, new int[381]);
        x.end(382);
        x.end(-1);
        x.asks(1, 1, 0);
        x.asks(1, 2, 0);
        x.rests(3);
        x.order(3, 0);
        x.order(0, 99);
        x.game(3, 0);
        x.game(0, 2);
        x.joked(4096);
        x.inside(6, 0, 0);
        x.inside(0, -1, 0);
        x.way(3);
        x.cut(3, 0);
        x.bags(0, 0);
        x.bags(1, 0);
        x.drawn(3, 0);
        x.count(17);
        doc.due("status() behind them", twin.status(), x.status());
        for (int what = 7; what <= 11; what++) {
            doc.due("count(" + what + ") behind them", twin.count(what), x.count(what));
        }
        same("them", x, twin);
    }
}
