/** Promises 35 and 36: images, and going back to them. */
public final class ImageTest {
    private static final Checks CHECKS = new Checks();

    private static void due(String call, long want, long got) {
        CHECKS.due(call, want, got);
    }

    public static void main(String[] args) {
        refusals();
        allThatIsKept();
        whatIsNotKept();
        lawsOfTwoImages();
        imagesStay();
        CHECKS.close("ImageTest");
    }

    private static void refusals() {
        TearPost x = new TearPost();
        due("image(-1)", -1, x.image(-1));
        due("image(2)", -1, x.image(2));
        due("back(-1)", -1, x.back(-1));
        due("back(2)", -1, x.back(2));
        due("back(0)", -2, x.back(0));
        due("image(1)", 0, x.image(1));
        due("back(0)", -2, x.back(0));
        due("back(1)", 0, x.back(1));
    }

    private static void allThatIsKept() {
        TearPost x = new TearPost();
        x.road(0, 1);
        x.reader(3, 1);
        x.letter(10, 2, 3, 0, 1);
        x.letter(8, 2, 3, 0, 1);
        x.hand(0, -1);
        x.ledger(0, 77);
        x.terms(0, 5);
        x.terms(1, 6);
        x.terms(2, 7);
        Checks.rule(x, "weeps 9");
        x.image(0);
        x.road(1, 2);
        x.reader(1, 2);
        x.letter(1, 1, 1, 1, 0);
        x.hand(1, -1);
        x.onward(0, 1);
        x.tire(0, 99);
        x.ledger(0, -1);
        x.terms(0, 0);
        x.terms(1, 1);
        x.terms(2, 1);
        Checks.rule(x, "weeps 1");
        due("back(0)", 0, x.back(0));
        int[] counts = {1, 1, 2, 1, 1};
        for (int k = 0; k < counts.length; k++) {
            due("count(" + k + ")", counts[k], x.count(k));
        }
        int[] reader = {3, 1, 5, 1, 0, 30, 77};
        for (int k = 0; k < reader.length; k++) {
            due("of(0, " + k + ")", reader[k], x.of(0, k));
        }
        int[] letter = {10, 2, 3, 0, 1, 1, 30};
        for (int k = 0; k < letter.length; k++) {
            due("at(0, " + k + ")", letter[k], x.at(0, k));
        }
        due("force", 0, x.count(12));
        due("office", 30, x.count(13));
        due("day", 5, x.count(14));
        due("ink", 6, x.count(15));
        due("mood", 7, x.count(16));
        due("weeps by the law that was", 9, x.asks(1, -1, 0));
        due("a new reader is new", 1, x.reader(2, 0));
        due("its ledger", -1, x.of(1, 6));
        due("its tiredness", 0, x.of(1, 2));
        due("a new letter is new", 2, x.letter(2, 2, 2, 1, 1));
        due("held", 0, x.at(2, 5));
    }

    private static void whatIsNotKept() {
        TearPost x = new TearPost();
        x.reader(3, 0);
        x.letter(10, 2, 3, 0, 1);
        x.image(0);
        x.hand(0, -1);
        due("image() leaves what can be undone", 0, x.image(1));
        due("count(5)", 1, x.count(5));
        due("a refused back() does, too", -1, x.back(2));
        due("count(5)", 1, x.count(5));
        Checks.orders(x, "pass;hand 9");
        Checks.law(x, "weeps");
        Checks.tape(x, 1, 2, 3);
        x.row();
        x.pass();
        Checks.tape(x, 1, 2, 3);
        x.road(0, 0);
        due("back(0)", 0, x.back(0));
        due("nothing can be undone", 0, x.count(5));
        due("undo()", -3, x.undo());
        due("the tape stays", 3, x.count(6));
        due("blots() stay", 1, x.blots());
        due("fault() stays", 5, x.fault());
        due("stopped() stays", 1, x.stopped());
        due("count(7): refusals stay", 2, x.count(7));
        due("count(9)", 2, x.count(9));
        due("count(11)", 1, x.count(11));
        due("the letter is held", 0, x.at(0, 5));
    }

    private static void lawsOfTwoImages() {
        TearPost x = new TearPost();
        x.reader(3, 0);
        x.letter(10, 2, 3, 0, 1);
        x.image(0);
        Checks.rule(x, "weeps 1");
        x.image(1);
        x.back(0);
        due("no law", 0, x.count(4));
        due("weeps", 30, x.asks(0, -1, 0));
        Checks.rule(x, "weeps 2");
        due("weeps", 2, x.asks(0, -1, 0));
        x.back(1);
        due("the law of that image", 1, x.asks(0, -1, 0));
        for (int k = 1; k < 6; k++) {
            Checks.law(x, "weeps 5");
        }
        due("a 7th law", -5, Checks.law(x, "weeps 6"));
        x.back(0);
        due("room again", 0, Checks.law(x, "weeps 7"));
    }

    private static void imagesStay() {
        TearPost x = new TearPost();
        x.reader(3, 0);
        x.image(0);
        x.tire(0, 5);
        x.image(1);
        x.tire(0, 6);
        due("back(0)", 0, x.back(0));
        due("tired", 0, x.of(0, 2));
        x.tire(0, 9);
        due("back(0) again", 0, x.back(0));
        due("tired", 0, x.of(0, 2));
        due("back(1)", 0, x.back(1));
        due("tired", 5, x.of(0, 2));
        due("image(0) anew", 0, x.image(0));
        x.tire(0, 1);
        x.back(0);
        due("tired", 5, x.of(0, 2));
    }
}
