/** Promises 1 to 9, sentence by sentence: a new object, roads, readers, letters, terms. */
final class EdgesOfPost {
    private static final int LEAST = Integer.MIN_VALUE;
    private static final int MOST = Integer.MAX_VALUE;

    private final Sentences doc;

    EdgesOfPost(Sentences doc) {
        this.doc = doc;
    }

    private void due(String call, long want, long got) {
        doc.due(call, want, got);
    }

    void all() {
        constants();
        aNewObject();
        askedOfNothing();
        fiveHundredAndTwelveCalls();
        towns();
        theOffice();
        twelveRoads();
        roadsAlike();
        mowing();
        aReadersNumbers();
        eightReaders();
        aNewReader();
        owed();
        tiring();
        of();
        aLettersNumbers();
        twelveLetters();
        aNewLetter();
        at();
        terms();
        termsAtFirst();
    }

    static TearPost withReaders(int many) {
        TearPost x = new TearPost();
        for (int k = 0; k < many; k++) {
            x.reader(1 + k, 0);
        }
        return x;
    }

    /** One reader, soft 1, in town 0; so many letters of grief 10. */
    static TearPost withLetters(int many) {
        TearPost x = withReaders(1);
        for (int k = 0; k < many; k++) {
            x.letter(10, 0, 1, 0, 0);
        }
        return x;
    }

    private void constants() {
        doc.says(1, "The constants: `NONE = -1`: There is none.");
        due("NONE", -1, TearPost.NONE);
        doc.says(1, "`NOTHING = -1000000`: What is not there, where it could be below 0.");
        due("NOTHING", -1000000, TearPost.NOTHING);
    }

    private void aNewObject() {
        doc.says(1, "An office without letters.");
        TearPost x = new TearPost();
        int[] counts = {0, 0, 0, 0, 0, 0, 0, 0, 0, 0, 0, 0, -1, 0, 0, 10, 0};
        for (int what = 0; what < counts.length; what++) {
            due("count(" + what + ")", counts[what], x.count(what));
        }
        due("status()", 0, x.status());
        due("fault()", -1, x.fault());
        due("stopped()", -1, x.stopped());
        due("blots()", 0, x.blots());
        TearPost other = withLetters(2);
        other.hand(0, -1);
        due("letters of another object", 0, x.count(2));
        due("the office of another object", 0, x.count(13));
        due("a first reader of its own", 0, x.reader(0, 0));
    }

    private void askedOfNothing() {
        doc.says(1, "An office without letters.");
        TearPost x = new TearPost();
        for (int k = -1; k <= 1; k++) {
            due("of(" + k + ", 0)", -1, x.of(k, 0));
            due("at(" + k + ", 0)", -1, x.at(k, 0));
            due("asks(" + k + ", -1, 0)", -1, x.asks(k, -1, 0));
            due("rests(" + k + ")", -1, x.rests(k));
            due("order(" + k + ", -1)", -1, x.order(k, -1));
            due("game(" + k + ", 0)", -1000000, x.game(k, 0));
            due("game(" + k + ", 1)", -1000000, x.game(k, 1));
            due("inside(" + k + ", 0, -1)", -1, x.inside(k, 0, -1));
            due("way(" + k + ")", -1, x.way(k));
            due("cut(" + k + ", 0)", -1, x.cut(k, 0));
            due("drawn(" + k + ", 0)", -1, x.drawn(k, 0));
        }
        due("joked(-1)", 1, x.joked(-1));
        due("joked(0)", 0, x.joked(0));
        due("joked(1)", -1, x.joked(1));
        due("bags(1, 0)", 0, x.bags(1, 0));
        due("bags(1, 1)", 0, x.bags(1, 1));
        due("mow()", -3, x.mow());
        due("undo()", -3, x.undo());
        due("season(0, 1)", -3, x.season(0, 1));
        due("row()", -6, x.row());
        due("law()", -6, x.law());
        due("orders()", -6, x.orders());
        due("back(0)", -2, x.back(0));
        due("hand(0, -1)", -2, x.hand(0, -1));
        due("onward(0, 0)", -2, x.onward(0, 0));
        due("force(0)", -2, x.force(0));
    }

    private void fiveHundredAndTwelveCalls() {
        doc.says(1, "An object is used for at most 512 calls after it has been made; what later calls answer is free.");
        doc.says(1, "and nothing about an object after its 512th call.");
        TearPost x = new TearPost();
        for (int call = 1; call <= 511; call++) {
            due("pass() as call " + call, call, x.pass());
        }
        due("count(14) as the 512th call", 511, x.count(14));
        TearPost y = new TearPost();
        for (int call = 1; call <= 510; call++) {
            due("road(0, 0) as call " + call, -1, y.road(0, 0));
        }
        due("count(7) as call 511", 510, y.count(7));
        due("road(0, 1) as the 512th call", 0, y.road(0, 1));
    }

    private void towns() {
        doc.says(2, "TOWNS 0 .. 7 (the office is in 0).");
        doc.range("road(town, 5)", 0, 7, 0, -1, town -> new TearPost().road(town, 5));
        doc.range("road(5, town)", 0, 7, 0, -1, town -> new TearPost().road(5, town));
        due("road(0, 7)", 0, new TearPost().road(0, 7));
        due("road(7, 0)", 0, new TearPost().road(7, 0));
        due("road(-1, 8)", -1, new TearPost().road(-1, 8));
        due("a reader in town 7", 0, new TearPost().reader(0, 7));
        due("a reader in town 8", -1, new TearPost().reader(0, 8));
    }

    private void theOffice() {
        doc.says(2, "TOWNS 0 .. 7 (the office is in 0).");
        for (int town = 0; town <= 7; town++) {
            TearPost x = new TearPost();
            x.reader(1, town);
            x.letter(10, 0, 1, 0, 0);
            due("hand() to town " + town + " without roads", town == 0 ? 10 : -3, x.hand(0, -1));
            due("way() to town " + town + " without roads", town == 0 ? 0 : -1, x.way(0));
        }
    }

    private void twelveRoads() {
        doc.says(2, "ROADS 0 .. 11 (12 at most), each between two unlike TOWNS.");
        TearPost x = new TearPost();
        for (int road = 0; road < 12; road++) {
            due("count(0) ahead of road " + road, road, x.count(0));
            due("road " + road, road, x.road(road % 7, road % 7 + 1));
        }
        due("count(0) of all", 12, x.count(0));
        due("a 13th road", -5, x.road(3, 5));
        due("a 13th road, between two that have one", -5, x.road(0, 1));
        due("count(0) behind them", 12, x.count(0));
        x.mow();
        due("a 12th road again", 11, x.road(3, 5));
        due("a 13th road again", -5, x.road(3, 5));
        TearPost y = new TearPost();
        y.reader(1, 3);
        y.road(3, 0);
        due("a road can be gone both ways", 1, y.way(0));
        due("a second one between the same two", 1, y.road(0, 3));
        due("and one more, told the other way round", 2, y.road(3, 0));
    }

    private void roadsAlike() {
        doc.says(2, "A ROAD: its number. -1 (alike ones); -5.");
        TearPost x = new TearPost();
        for (int town = 0; town <= 7; town++) {
            due("road(" + town + ", " + town + ")", -1, x.road(town, town));
        }
        due("count(0)", 0, x.count(0));
        for (int road = 0; road < 12; road++) {
            x.road(0, 1);
        }
        due("road(2, 2), no room either", -1, x.road(2, 2));
        due("road(0, 8), no room either", -1, x.road(0, 8));
        due("road(-1, 0), no room either", -1, x.road(-1, 0));
        due("road(0, 2), no room", -5, x.road(0, 2));
        due("status()", -5, x.status());
    }

    private void mowing() {
        doc.says(3, "The latest ROAD is gone: how many there are. -3 there is none.");
        TearPost x = new TearPost();
        x.reader(1, 1);
        x.reader(1, 2);
        due("mow() of none", -3, x.mow());
        x.road(0, 1);
        x.road(0, 2);
        due("mow() of two", 1, x.mow());
        due("the first stays", 1, x.way(0));
        due("the latest is gone", -1, x.way(1));
        due("mow() of one", 0, x.mow());
        due("the first is gone", -1, x.way(0));
        due("mow() of none again", -3, x.mow());
        due("count(0)", 0, x.count(0));
        for (int road = 0; road < 12; road++) {
            due("road " + road + " behind it", road, x.road(0, 1));
        }
        for (int road = 11; road >= 0; road--) {
            due("mow() of " + (road + 1), road, x.mow());
        }
        due("mow() of none at last", -3, x.mow());
    }

    private void aReadersNumbers() {
        doc.says(4, "A READER: the number. -1; -5.");
        doc.range("reader(soft, 0)", 0, 9, 0, -1, soft -> new TearPost().reader(soft, 0));
        doc.range("reader(0, town)", 0, 7, 0, -1, town -> new TearPost().reader(0, town));
        due("reader(10, 8)", -1, new TearPost().reader(10, 8));
        TearPost x = withReaders(8);
        due("reader(10, 0), no room either", -1, x.reader(10, 0));
        due("reader(0, 8), no room either", -1, x.reader(0, 8));
        due("reader(-1, 0), no room either", -1, x.reader(-1, 0));
        due("reader(0, 0), no room", -5, x.reader(0, 0));
    }

    private void eightReaders() {
        doc.says(4, "READERS 0 .. 7 (8 at most): SOFT 0 .. 9, a TOWN, TIRED 0 .. 999 (0 at first), HAD: how many letters"
                + " (0), OWED: how often nothing was paid without a laugh (0), PAID (0).");
        TearPost x = new TearPost();
        for (int r = 0; r < 8; r++) {
            due("count(1) ahead of reader " + r, r, x.count(1));
            due("reader " + r, r, x.reader(9 - r, 7 - r));
        }
        due("a 9th reader", -5, x.reader(0, 0));
        due("count(1)", 8, x.count(1));
        for (int r = 0; r < 8; r++) {
            due("of(" + r + ", 0)", 9 - r, x.of(r, 0));
            due("of(" + r + ", 1)", 7 - r, x.of(r, 1));
        }
    }

    private void aNewReader() {
        doc.says(4, "READERS 0 .. 7 (8 at most): SOFT 0 .. 9, a TOWN, TIRED 0 .. 999 (0 at first), HAD: how many letters"
                + " (0), OWED: how often nothing was paid without a laugh (0), PAID (0).");
        TearPost x = new TearPost();
        x.image(0);
        x.reader(9, 0);
        x.letter(10, 0, 1, 0, 0);
        x.letter(0, 0, 1, 0, 0);
        x.ledger(0, 5);
        x.hand(0, -1);
        x.hand(1, -1);
        due("had, owed, paid, tired are not 0", 1, x.of(0, 3) * x.of(0, 4) * x.of(0, 5) * x.of(0, 2) > 0 ? 1 : 0);
        x.back(0);
        due("reader 0 anew", 0, x.reader(4, 3));
        int[] want = {4, 3, 0, 0, 0, 0, -1};
        for (int what = 0; what < want.length; what++) {
            due("of(0, " + what + ")", want[what], x.of(0, what));
        }
        due("a letter anew", 0, x.letter(1, 0, 1, 0, 0));
        due("it is held", 0, x.at(0, 5));
    }

    private void owed() {
        doc.says(4, "HAD: how many letters (0), OWED: how often nothing was paid without a laugh (0), PAID (0).");
        TearPost x = new TearPost();
        x.reader(1, 0);
        x.letter(5, 0, 1, 0, 0);
        x.letter(0, 1, 1, 0, 0);
        x.letter(0, 0, 1, 0, 0);
        x.letter(0, 0, 1, 0, 0);
        x.letter(0, 0, 1, 0, 0);
        int[][] want = {{5, 1, 0, 5}, {0, 2, 0, 5}, {0, 3, 1, 5}};
        for (int k = 0; k < want.length; k++) {
            due("hand(" + k + ")", want[k][0], x.hand(k, -1));
            due("had behind " + k, want[k][1], x.of(0, 3));
            due("owed behind " + k, want[k][2], x.of(0, 4));
            due("paid behind " + k, want[k][3], x.of(0, 5));
        }
        due("hand(3, 4)", 0, x.hand(3, 4));
        due("had behind two", 5, x.of(0, 3));
        due("owed behind two at once", 2, x.of(0, 4));
    }

    private void tiring() {
        doc.says(5, "TIRED of a READER: what it was. -1; -2.");
        doc.range("tire(0, value)", 0, 999, 0, -1, value -> withReaders(1).tire(0, value));
        doc.range("tire(reader, 5)", 0, 1, 0, -2, reader -> withReaders(2).tire(reader, 5));
        doc.range("tire(reader, 5) of eight", 0, 7, 0, -2, reader -> withReaders(8).tire(reader, 5));
        doc.range("tire(1, value), no such reader", 0, 999, -2, -1, value -> withReaders(1).tire(1, value));
        TearPost x = withReaders(2);
        due("tire(0, 999)", 0, x.tire(0, 999));
        due("tire(0, 1000)", -1, x.tire(0, 1000));
        due("tire(0, -1)", -1, x.tire(0, -1));
        due("tired is as it was", 999, x.of(0, 2));
        due("the other one is not tired", 0, x.of(1, 2));
        due("tire(0, 0)", 999, x.tire(0, 0));
        due("tire(0, 7)", 0, x.tire(0, 7));
        due("of(0, 2)", 7, x.of(0, 2));
        TearPost eight = withReaders(8);
        for (int r = 0; r < 8; r++) {
            due("tire(" + r + ", ..)", 0, eight.tire(r, 100 + r));
        }
        for (int r = 0; r < 8; r++) {
            due("what it was, of reader " + r, 100 + r, eight.tire(r, 5));
        }
    }

    private void of() {
        doc.says(6, "Of a READER SOFT (what 0), TOWN (1), TIRED (2), HAD (3), OWED (4), PAID (5), the LEDGER (6). NONE.");
        TearPost x = new TearPost();
        x.reader(9, 0);
        x.reader(8, 7);
        x.letter(30, 0, 1, 0, 0);
        x.letter(0, 0, 1, 0, 0);
        x.ledger(0, 99999);
        x.hand(0, -1);
        x.hand(1, -1);
        int[] want = {9, 0, 15, 2, 1, 270, 99999};
        int[] other = {8, 7, 0, 0, 0, 0, -1};
        for (int what = 0; what < want.length; what++) {
            due("of(0, " + what + ")", want[what], x.of(0, what));
            due("of(1, " + what + ")", other[what], x.of(1, what));
            due("of(2, " + what + ")", -1, x.of(2, what));
            due("of(-1, " + what + ")", -1, x.of(-1, what));
        }
        for (int what : new int[] {-1, 7, LEAST, MOST}) {
            due("of(0, " + what + ")", -1, x.of(0, what));
        }
        due("of(LEAST, 0)", -1, x.of(LEAST, 0));
        due("of(MOST, 0)", -1, x.of(MOST, 0));
        due("of(7, 0) of eight", 8, withReaders(8).of(7, 0));
        due("of(8, 0) of eight", -1, withReaders(8).of(8, 0));
    }

    private void aLettersNumbers() {
        doc.says(7, "A LETTER: its number. -1; -2; -5.");
        doc.range("letter(grief, ..)", 0, 30, 0, -1, grief -> withReaders(1).letter(grief, 0, 1, 0, 0));
        doc.range("letter(.., joke, ..)", 0, 30, 0, -1, joke -> withReaders(1).letter(0, joke, 1, 0, 0));
        doc.range("letter(.., weight, ..)", 1, 9, 0, -1, weight -> withReaders(1).letter(0, 0, weight, 0, 0));
        doc.range("letter(.., reader, ..)", 0, 2, 0, -2, reader -> withReaders(3).letter(0, 0, 1, reader, 0));
        doc.range("letter(.., reader, ..) of eight", 0, 7, 0, -2, reader -> withReaders(8).letter(0, 0, 1, reader, 0));
        doc.range("letter(.., sender)", 0, 1, 0, -1, sender -> withReaders(1).letter(0, 0, 1, 0, sender));
        doc.range("letter(.., sender) for no one", 0, 1, -2, -1, sender -> withReaders(1).letter(0, 0, 1, 1, sender));
        doc.range("letter(grief, ..) for no one", 0, 30, -2, -1, grief -> withReaders(1).letter(grief, 0, 1, -1, 0));
        doc.range("a 13th letter(.., weight, ..)", 1, 9, -5, -1, weight -> withLetters(12).letter(0, 0, weight, 0, 0));
        doc.range("a 13th letter(.., joke, ..)", 0, 30, -5, -1, joke -> withLetters(12).letter(0, joke, 1, 0, 0));
        doc.range("a 13th letter(.., reader, ..)", 0, 0, -5, -2, reader -> withLetters(12).letter(0, 0, 1, reader, 0));
        due("a 13th letter for no one of grief 31", -1, withLetters(12).letter(31, 0, 1, 1, 0));
    }

    private void twelveLetters() {
        doc.says(7, "LETTERS 0 .. 11 (12 at most): GRIEF 0 .. 30, JOKE 0 .. 30, WEIGHT 1 .. 9, for a READER, of a SENDER"
                + " 0 .. 1; HELD (at first) or READ, what was PAID for it.");
        TearPost x = withReaders(1);
        for (int k = 0; k < 12; k++) {
            due("count(2) ahead of letter " + k, k, x.count(2));
            due("letter " + k, k, x.letter(30 - k, k, 1 + k % 9, 0, k % 2));
        }
        due("a 13th letter", -5, x.letter(0, 0, 1, 0, 0));
        due("count(2)", 12, x.count(2));
        due("count(3)", 12, x.count(3));
        x.hand(11, -1);
        due("a 13th letter, one of them read", -5, x.letter(0, 0, 1, 0, 0));
        due("count(2)", 12, x.count(2));
        due("count(3)", 11, x.count(3));
    }

    private void aNewLetter() {
        doc.says(7, "HELD (at first) or READ, what was PAID for it.");
        TearPost x = withReaders(1);
        x.image(0);
        x.letter(10, 0, 2, 0, 0);
        due("read at first", 0, x.at(0, 5));
        due("paid at first", 0, x.at(0, 6));
        x.hand(0, -1);
        due("read behind hand()", 1, x.at(0, 5));
        due("paid behind hand()", 10, x.at(0, 6));
        x.back(0);
        due("letter 0 anew", 0, x.letter(1, 2, 3, 0, 1));
        int[] want = {1, 2, 3, 0, 1, 0, 0};
        for (int what = 0; what < want.length; what++) {
            due("at(0, " + what + ")", want[what], x.at(0, what));
        }
    }

    private void at() {
        doc.says(8, "Of a LETTER GRIEF (what 0), JOKE (1), WEIGHT (2), READER (3), SENDER (4), whether READ (5: 1, 0), what"
                + " was PAID for it (6). NONE.");
        TearPost x = withReaders(8);
        x.letter(30, 0, 9, 7, 1);
        x.letter(0, 30, 1, 0, 0);
        x.hand(0, -1);
        int[] want = {30, 0, 9, 7, 1, 1, 240};
        int[] other = {0, 30, 1, 0, 0, 0, 0};
        for (int what = 0; what < want.length; what++) {
            due("at(0, " + what + ")", want[what], x.at(0, what));
            due("at(1, " + what + ")", other[what], x.at(1, what));
            due("at(2, " + what + ")", -1, x.at(2, what));
            due("at(-1, " + what + ")", -1, x.at(-1, what));
        }
        for (int what : new int[] {-1, 7, LEAST, MOST}) {
            due("at(0, " + what + ")", -1, x.at(0, what));
        }
        due("at(LEAST, 0)", -1, x.at(LEAST, 0));
        due("at(MOST, 0)", -1, x.at(MOST, 0));
        due("at(11, 0) of twelve", 10, withLetters(12).at(11, 0));
        due("at(12, 0) of twelve", -1, withLetters(12).at(12, 0));
    }

    private void terms() {
        doc.says(9, "A TERM: what it was. -1.");
        doc.range("terms(0, day)", 0, 999, 0, -1, day -> new TearPost().terms(0, day));
        doc.range("terms(1, ink)", 1, 99, 10, -1, ink -> new TearPost().terms(1, ink));
        doc.range("terms(2, mood)", 0, 9, 0, -1, mood -> new TearPost().terms(2, mood));
        for (int what : new int[] {-1, 3, LEAST, MOST}) {
            due("terms(" + what + ", 1)", -1, new TearPost().terms(what, 1));
        }
        int[] before = {0, 10, 0};
        int[] low = {0, 1, 0};
        int[] high = {999, 99, 9};
        TearPost x = new TearPost();
        for (int what = 0; what < 3; what++) {
            due("terms(" + what + ", the most)", before[what], x.terms(what, high[what]));
            due("terms(" + what + ", one more)", -1, x.terms(what, high[what] + 1));
            due("count() of it", high[what], x.count(14 + what));
            due("terms(" + what + ", the least)", high[what], x.terms(what, low[what]));
            due("terms(" + what + ", one less)", -1, x.terms(what, low[what] - 1));
            due("count() of it", low[what], x.count(14 + what));
            due("terms(" + what + ", the most) again", low[what], x.terms(what, high[what]));
        }
        for (int what = 0; what < 3; what++) {
            due("the others leave term " + what, high[what], x.count(14 + what));
        }
    }

    private void termsAtFirst() {
        doc.says(9, "TERMS: 0 DAY 0 .. 999 (0 at first), 1 INK 1 .. 99 (10), 2 MOOD 0 .. 9 (0).");
        int[] first = {0, 10, 0};
        for (int what = 0; what < 3; what++) {
            due("count(" + (14 + what) + ")", first[what], new TearPost().count(14 + what));
            due("terms(" + what + ", 1)", first[what], new TearPost().terms(what, 1));
        }
    }
}
