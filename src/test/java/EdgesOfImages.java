import java.util.function.ToIntFunction;

/** Promises 35 to 38, sentence by sentence: images, what is counted, and by what the latest call was refused. */
final class EdgesOfImages {
    private final Sentences doc;

    EdgesOfImages(Sentences doc) {
        this.doc = doc;
    }

    private void due(String call, long want, long got) {
        doc.due(call, want, got);
    }

    void all() {
        images();
        back();
        allThatIsKept();
        whatIsNotKept();
        imagesStay();
        counts();
        countsOfWhatIsRefused();
        theOrderOfRefusals();
        statusOfEachCall();
        statusOfOthers();
    }

    private void images() {
        doc.says(35, "IMAGE k is kept: 0; -1.");
        doc.range("image(k)", 0, 1, 0, -1, k -> new TearPost().image(k));
        TearPost x = new TearPost();
        due("image(0) again", 0, x.image(0) + x.image(0));
        due("image(1), too", 0, x.image(1));
        due("image(2)", -1, x.image(2));
        due("back(0) behind it", 0, x.back(0));
        due("back(1) behind it", 0, x.back(1));
    }

    private void back() {
        doc.says(36, "BACK to IMAGE k: 0. -1; -2 it was not kept.");
        doc.range("back(k), none kept", 0, 1, -2, -1, k -> new TearPost().back(k));
        for (int kept = 0; kept <= 1; kept++) {
            TearPost x = new TearPost();
            x.image(kept);
            due("back(" + kept + ")", 0, x.back(kept));
            due("back(" + (1 - kept) + "), which was not kept", -2, x.back(1 - kept));
            due("back(2)", -1, x.back(2));
            due("back(-1)", -1, x.back(-1));
            due("back(" + kept + ") again", 0, x.back(kept));
        }
    }

    private void allThatIsKept() {
        doc.says(36, "BACK to one all that it keeps is as it was then (IMAGES stay).");
        TearPost full = Looks.lived();
        full.image(1);
        TearPost twin = Looks.lived();
        twin.image(1);
        for (int r = 3; r < 8; r++) {
            full.reader(9, 7);
        }
        for (int k = 6; k < 12; k++) {
            full.letter(1, 1, 1, k % 8, 0);
            full.road(6, 7);
        }
        full.hand(6, -1);
        full.terms(0, 900);
        full.terms(1, 99);
        full.terms(2, 9);
        for (int r = 0; r < 4; r++) {
            full.tire(r, 900);
            full.ledger(r, 900);
        }
        for (int k = 2; k < 6; k++) {
            Checks.law(full, "weeps 900");
        }
        full.force(5);
        full.onward(0, 7);
        due("back(1)", 0, full.back(1));
        due("back(1) of the other one", 0, twin.back(1));
        // the tape, the fault and where orders stopped are no part of it
        Checks.orders(full, "x");
        Checks.orders(twin, "x");
        String differs = Looks.difference(full, twin);
        due("whether all is as it was then (" + differs + ")", 1, differs.isEmpty() ? 1 : 0);
    }

    private void whatIsNotKept() {
        doc.says(36, "IMAGES 0, 1 keep all but the TAPE, FAULT, BLOTS, where ORDERS stopped, what can be undone (nothing, behind back()),"
                + " the latest SEASON;");
        TearPost x = EdgesOfPost.withLetters(2);
        x.image(0);
        Checks.tape(x, 9, 9, 9);
        x.row();
        Checks.law(x, "bars;bars bars");
        Checks.orders(x, "pass;pass;hand 9");
        x.law();
        Checks.law(x, "laughs x");
        x.season(5, 1);
        x.pass();
        Checks.tape(x, 1, 2, 3, 4);
        due("count(5)", 1, x.count(5));
        due("back(0)", 0, x.back(0));
        due("the tape", 4, x.count(6));
        due("the fault", 7, x.fault());
        due("the blots", 1, x.blots());
        due("where orders stopped", 2, x.stopped());
        due("what was paid in the latest season", 10, x.drawn(0, 0));
        due("count(5)", 0, x.count(5));
        due("undo()", -3, x.undo());
        due("a bad row", 0, x.row());
        due("the blots of it", 1, x.blots());
        x.pass();
        due("an image leaves what can be undone", 0, x.image(1));
        due("count(5)", 1, x.count(5));
        due("undo()", 2, x.undo());
        x.pass();
        x.back(1);
        due("what could be undone then can't be now", -3, x.undo());
        due("the day then", 1, x.count(14));
    }

    private void imagesStay() {
        doc.says(36, "(IMAGES stay)");
        TearPost x = EdgesOfPost.withReaders(1);
        x.tire(0, 10);
        x.image(0);
        x.tire(0, 20);
        x.image(1);
        for (int n = 0; n < 3; n++) {
            x.tire(0, 30 + n);
            due("back(0)", 0, x.back(0));
            due("tired", 10, x.of(0, 2));
            x.tire(0, 40);
            due("back(1)", 0, x.back(1));
            due("tired", 20, x.of(0, 2));
        }
        due("image(0) anew, of what stands by image 1", 0, x.image(0));
        x.tire(0, 50);
        x.back(0);
        due("tired", 20, x.of(0, 2));
        x.tire(0, 60);
        x.image(1);
        x.back(0);
        due("tired by image 0", 20, x.of(0, 2));
        x.back(1);
        due("tired by image 1", 60, x.of(0, 2));
        roadsOfImages();
        // a law of one image is not that of the other
        TearPost y = EdgesOfPost.withLetters(1);
        y.image(0);
        Checks.rule(y, "weeps 1");
        y.image(1);
        y.back(0);
        due("count(4)", 0, y.count(4));
        due("count(12)", -1, y.count(12));
        Checks.rule(y, "weeps 2");
        due("weeps by a law behind back()", 2, y.asks(0, -1, 0));
        y.back(1);
        due("weeps by the law of image 1", 1, y.asks(0, -1, 0));
    }

    private void roadsOfImages() {
        TearPost x = new TearPost();
        for (int town = 1; town <= 7; town++) {
            x.reader(0, town);
        }
        x.road(0, 1);
        x.road(2, 1);
        x.image(0);
        x.mow();
        x.mow();
        x.road(7, 0);
        x.road(6, 7);
        x.road(0, 5);
        x.image(1);
        int[][] want = {{1, 2, -1, -1, -1, -1, -1}, {-1, -1, -1, -1, 1, 2, 1}};
        for (int k : new int[] {0, 1, 1, 0}) {
            x.back(k);
            due("roads of image " + k, 2 + k, x.count(0));
            for (int r = 0; r < 7; r++) {
                due("way(" + r + ") by the roads of image " + k, want[k][r], x.way(r));
            }
        }
    }

    private void counts() {
        doc.says(37, "0 ROADS, 1 READERS, 2 LETTERS, 3 how many are HELD, 4 LAWS, 5 how many can be undone, 6 bytes of the TAPE, 7 .. 11"
                + " how many calls were REFUSED by -1, -2, -3, -5, -6 (IMAGES do not keep that), 12 the LAW in FORCE, 13 the OFFICE,"
                + " 14 .. 16 TERMS 0 .. 2. NONE for others.");
        TearPost x = EdgesOfPost.withReaders(2);
        x.road(1, 2);
        for (int k = 0; k < 5; k++) {
            x.letter(10 * (k / 4), 0, 1, 1, 0);
        }
        x.terms(0, 7);
        x.terms(1, 8);
        x.terms(2, 9);
        Checks.law(x, "weeps 6");
        Checks.law(x, "weeps 5");
        Checks.law(x, "weeps 4");
        x.force(1);
        x.hand(3, -1);
        x.hand(4, -1);
        x.pass();
        x.feed(0, 0, 0, 0, 0);
        int[] want = {1, 2, 5, 3, 3, 3, 20, 0, 0, 0, 0, 0, 1, 10, 8, 8, 9};
        for (int what = 0; what < want.length; what++) {
            due("count(" + what + ")", want[what], x.count(what));
        }
        for (int what : new int[] {-1, 17, 18, 100, Integer.MIN_VALUE, Integer.MAX_VALUE}) {
            due("count(" + what + ")", -1, x.count(what));
        }
    }

    private void countsOfWhatIsRefused() {
        doc.says(37, "7 .. 11 how many calls were REFUSED by -1, -2, -3, -5, -6 (IMAGES do not keep that)");
        TearPost x = EdgesOfPost.withReaders(8);
        x.image(0);
        for (int n = 1; n <= 5; n++) {
            x.road(n, n);
            due("count(7) behind " + n, n, x.count(7));
            x.force(n);
            x.force(n);
            due("count(8) behind " + n, 2 * n, x.count(8));
            x.mow();
            x.mow();
            x.mow();
            due("count(9) behind " + n, 3 * n, x.count(9));
            x.reader(0, 0);
            due("count(10) behind " + n, n, x.count(10));
            x.row();
            x.law();
            due("count(11) behind " + n, 2 * n, x.count(11));
        }
        x.image(1);
        x.row();
        x.back(0);
        x.back(1);
        int[] want = {5, 10, 15, 5, 11};
        for (int k = 0; k < want.length; k++) {
            due("count(" + (7 + k) + ") behind back()", want[k], x.count(7 + k));
        }
    }

    private void theOrderOfRefusals() {
        doc.says(38, "REFUSED by: -1 a number that can't be; -2 there is no such READER, LETTER, LAW, IMAGE; -3 it can't be by what stands;"
                + " -5 no room; -6 a TEXT, a ROW that can't be. The first of these in that order.");
        TearPost full = EdgesOfPost.withLetters(12);
        for (int k = 0; k < 12; k++) {
            full.road(0, 1);
        }
        for (int r = 1; r < 8; r++) {
            full.reader(0, 0);
        }
        for (int k = 0; k < 6; k++) {
            Checks.law(full, "bars");
        }
        full.hand(0, -1);
        due("road(): -1 ahead of -5", -1, full.road(4, 4));
        due("reader(): -1 ahead of -5", -1, full.reader(10, 0));
        due("tire(): -1 ahead of -2", -1, full.tire(8, 1000));
        due("letter(): -1 ahead of -2 and -5", -1, full.letter(31, 0, 1, 8, 0));
        due("letter(): -1 ahead of -5", -1, full.letter(0, 0, 0, 7, 0));
        due("letter(): -2 ahead of -5", -2, full.letter(0, 0, 1, 8, 0));
        due("letter(): -5", -5, full.letter(0, 0, 1, 7, 0));
        due("hand(): -2 ahead of -3", -2, full.hand(0, 12));
        due("hand(): -3", -3, full.hand(0, 1));
        due("onward(): -2 ahead of -3", -2, full.onward(1, 8));
        due("onward(): -3", -3, full.onward(1, 7));
        due("ledger(): -1 ahead of -2", -1, full.ledger(8, -2));
        due("ledger(): -2", -2, full.ledger(8, 0));
        due("law(): -5, and it is not read", -5, Checks.law(full, "x"));
        due("season(): -1 ahead of -3", -1, new TearPost().season(-1, 1));
        due("season(): -3", -3, new TearPost().season(0, 1));
        due("back(): -1, and not -2", -1, full.back(2));
        due("back(): -2", -2, full.back(1));
        due("image(): -1", -1, full.image(2));
        due("terms(): -1", -1, full.terms(3, 1000));
    }

    private void each(String name, TearPost x, ToIntFunction<TearPost> call, int want) {
        int answer = call.applyAsInt(x);
        due(name, want, answer);
        due("status() behind " + name, want < 0 ? want : 0, x.status());
    }

    private void statusOfEachCall() {
        doc.says(38, "What the latest call of road, mow, reader, tire, letter, terms, row, law, orders, force, hand, onward, pass, undo,"
                + " ledger, season, image, back was REFUSED by; 0 if it was not, or ahead of any.");
        TearPost x = new TearPost();
        due("status() ahead of any", 0, x.status());
        each("road(1, 1)", x, p -> p.road(1, 1), -1);
        each("road(0, 1)", x, p -> p.road(0, 1), 0);
        each("mow()", x, TearPost::mow, 0);
        each("mow() of none", x, TearPost::mow, -3);
        each("reader(5, 0)", x, p -> p.reader(5, 0), 0);
        each("reader(10, 0)", x, p -> p.reader(10, 0), -1);
        each("tire(0, 3)", x, p -> p.tire(0, 3), 0);
        each("tire(1, 3)", x, p -> p.tire(1, 3), -2);
        each("letter(9, 0, 1, 0, 0)", x, p -> p.letter(9, 0, 1, 0, 0), 0);
        each("letter(9, 0, 1, 1, 0)", x, p -> p.letter(9, 0, 1, 1, 0), -2);
        each("terms(2, 1)", x, p -> p.terms(2, 1), 0);
        each("terms(3, 1)", x, p -> p.terms(3, 1), -1);
        each("row()", x, p -> {
            Checks.tape(p, 1, 0, 1, 0, 0);
            return p.row();
        }, 1);
        each("row() of none", x, TearPost::row, -6);
        each("law()", x, p -> Checks.law(p, "weeps 10"), 0);
        each("law() of none", x, TearPost::law, -6);
        each("orders()", x, p -> Checks.orders(p, "pass"), 1);
        each("orders() that can't be", x, p -> Checks.orders(p, "hand 9"), -3);
        each("orders() of none", x, TearPost::orders, -6);
        each("force(0)", x, p -> p.force(0) + 1, 0);
        each("force(1)", x, p -> p.force(1), -2);
        each("hand(0, -1)", x, p -> p.hand(0, -1), 10);
        each("hand(0, 1)", x, p -> p.hand(0, 1), -3);
        each("hand(9, 1)", x, p -> p.hand(9, 1), -2);
        each("pass()", x, TearPost::pass, 2);
        each("onward(0, 0)", x, p -> p.onward(0, 0), -3);
        each("undo()", x, TearPost::undo, 2);
        each("onward(9, 0)", x, p -> p.onward(9, 0), -2);
        each("ledger(0, 3)", x, p -> p.ledger(0, 3) + 1, 0);
        each("ledger(0, -2)", x, p -> p.ledger(0, -2), -1);
        each("season(5, 1)", x, p -> p.season(5, 1), 10);
        each("season(5, 61)", x, p -> p.season(5, 61), -1);
        each("image(0)", x, p -> p.image(0), 0);
        each("image(2)", x, p -> p.image(2), -1);
        each("back(0)", x, p -> p.back(0), 0);
        each("back(1)", x, p -> p.back(1), -2);
        each("undo() of none", x, TearPost::undo, -3);
        x.reader(1, 0);
        each("onward(0, 1)", x, p -> p.onward(0, 1), 8);
        each("pass() behind 999", x, p -> {
            p.terms(0, 999);
            return p.pass();
        }, -3);
        // an answer of NONE that tells what was is no refusal
        each("force(-1)", x, p -> p.force(-1), 0);
        due("force(-1) of none", -1, x.force(-1));
        due("status() behind it", 0, x.status());
        due("ledger(1, 5) of none", -1, x.ledger(1, 5));
        due("status() behind it", 0, x.status());
        each("road(1, 1)", x, p -> p.road(1, 1), -1);
        TearPost full = EdgesOfPost.withReaders(8);
        each("reader(0, 0)", full, p -> p.reader(0, 0), -5);
    }

    private void statusOfOthers() {
        doc.says(38, "0 if it was not, or ahead of any.");
        int[] codes = {-1, 0};
        for (int code : codes) {
            TearPost x = EdgesOfPost.withLetters(2);
            x.road(1, code == 0 ? 2 : 1);
            x.of(9, 9);
            x.at(9, 9);
            x.feed(0, 0, 0, 0, 0);
            x.end(21);
            x.end(-1);
            x.end(3);
            x.blots();
            x.fault();
            x.stopped();
            x.asks(0, 0, 0);
            x.asks(0, -1, 0);
            x.rests(9);
            x.order(9, 9);
            x.game(9, 9);
            x.joked(99);
            x.inside(9, 9, 9);
            x.way(9);
            x.cut(9, 9);
            x.bags(0, 0);
            x.drawn(9, 9);
            x.count(99);
            x.status();
            due("status() behind calls that are not among those", code, x.status());
            for (int what = 7; what <= 11; what++) {
                due("count(" + what + ") behind them", what == 7 && code == -1 ? 1 : 0, x.count(what));
            }
        }
    }
}
