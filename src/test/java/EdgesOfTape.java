/** Promises 10 to 13, sentence by sentence: the TAPE, rows of letters, blots. */
final class EdgesOfTape {
    private final Sentences doc;

    EdgesOfTape(Sentences doc) {
        this.doc = doc;
    }

    private void due(String call, long want, long got) {
        doc.due(call, want, got);
    }

    void all() {
        feedingUpTo400();
        feedingFromEachLength();
        theHighestFirst();
        fourHundredBytes();
        ending();
        whatWasEndedIsGone();
        aRowsNumbers();
        theTapeEndsWithin();
        noRoom();
        aWholeTape();
        emptyTapes();
        blots();
    }

    private static TearPost fed(int times) {
        TearPost x = new TearPost();
        for (int k = 0; k < times; k++) {
            x.feed(0, 0, 0, 0, 0);
        }
        return x;
    }

    private void feedingUpTo400() {
        doc.says(10, "Twenty bytes come behind the TAPE, four of each number, the highest first: how many it has. NONE, if"
                + " there would be more than 400.");
        TearPost x = new TearPost();
        for (int k = 1; k <= 20; k++) {
            due("feed() " + k, 20 * k, x.feed(k, 0, 0, 0, 0));
            due("count(6)", 20 * k, x.count(6));
        }
        due("feed() 21", -1, x.feed(1, 1, 1, 1, 1));
        due("count(6) behind it", 400, x.count(6));
        due("feed() 22", -1, x.feed(1, 1, 1, 1, 1));
        due("status(): it is not among those that are refused", 0, x.status());
    }

    private void feedingFromEachLength() {
        doc.says(10, "NONE, if there would be more than 400.");
        for (int length = 375; length <= 400; length++) {
            TearPost x = fed(20);
            x.end(length);
            due("feed() behind " + length, length <= 380 ? length + 20 : -1, x.feed(1, 2, 3, 4, 5));
            due("count(6) behind it", length <= 380 ? length + 20 : length, x.count(6));
        }
    }

    private void theHighestFirst() {
        doc.says(10, "Twenty bytes come behind the TAPE, four of each number, the highest first: how many it has.");
        TearPost x = new TearPost();
        x.reader(1, 0);
        x.reader(1, 0);
        x.feed(0x01020300, 0x01040506, 0x01000708, 0x09000110, 0x11050101);
        due("row()", 4, x.row());
        int[][] want = {{1, 2, 3, 0, 1}, {4, 5, 6, 1, 0}, {7, 8, 9, 0, 1}, {16, 17, 5, 1, 1}};
        for (int letter = 0; letter < 4; letter++) {
            for (int what = 0; what < 5; what++) {
                due("at(" + letter + ", " + what + ")", want[letter][what], x.at(letter, what));
            }
        }
        // bytes of 128 and more are no numbers below 0
        x.feed(-1, -1, Integer.MIN_VALUE, Integer.MAX_VALUE, 0x80808080);
        due("row() of high bytes", 0, x.row());
        due("blots()", 4, x.blots());
    }

    private void fourHundredBytes() {
        doc.says(10, "TEXTS are on a TAPE of at most 400 bytes.");
        TearPost x = new TearPost();
        due("a law of 400 bytes", 0, Checks.law(x, "laughs" + Checks.times(388, " ", "") + "if 1=1"));
        due("fault()", -1, x.fault());
        due("a law of 399 bytes and one that can't be", -6, Checks.law(x, "laughs" + Checks.times(393, " ", "") + "x"));
        due("fault() at the last byte", 399, x.fault());
        due("a text that needs one byte more", -6, Checks.law(x, "laughs" + Checks.times(388, " ", "") + "if 1 ="));
        due("fault() at the end", 400, x.fault());
        due("orders of 400 bytes", 1, Checks.orders(x, Checks.times(396, " ", "") + "pass"));
    }

    private void ending() {
        doc.says(11, "The TAPE has its first n bytes alone: n. NONE, if it has not so many, or n is below 0.");
        doc.range("end(n) of an empty tape", 0, 0, 0, -1, n -> fed(0).end(n));
        for (int n : new int[] {0, 1, 19, 20}) {
            due("end(" + n + ") of 20", n, fed(1).end(n));
        }
        for (int n : new int[] {-1, 21, 400, Integer.MIN_VALUE, Integer.MAX_VALUE}) {
            due("end(" + n + ") of 20", -1, fed(1).end(n));
        }
        for (int n : new int[] {0, 399, 400}) {
            due("end(" + n + ") of 400", n, fed(20).end(n));
        }
        due("end(401) of 400", -1, fed(20).end(401));
        TearPost x = fed(1);
        x.end(21);
        x.end(-1);
        due("count(6) behind NONE", 20, x.count(6));
        due("status(): it is not among those that are refused", 0, x.status());
    }

    private void whatWasEndedIsGone() {
        doc.says(11, "The TAPE has its first n bytes alone: n.");
        TearPost x = new TearPost();
        x.reader(1, 0);
        x.feed(0x01010100, 0x00020201, 0, 0, 0);
        due("end(5)", 5, x.end(5));
        due("end(6): the sixth byte is gone", -1, x.end(6));
        due("feed() comes behind the fifth", 25, x.feed(0x03030100, 0x00040401, 0x00000505, 0x01000006, 0x06010000));
        due("row()", 5, x.row());
        for (int letter = 0; letter < 5; letter++) {
            due("at(" + letter + ", 0)", letter == 0 ? 1 : letter + 2, x.at(letter, 0));
        }
    }

    /** A row of five bytes on a post of two readers: whether it is a letter. */
    private static int rowOf(int grief, int joke, int weight, int reader, int sender) {
        TearPost x = EdgesOfPost.withReaders(2);
        Checks.tape(x, grief, joke, weight, reader, sender);
        int came = x.row();
        return came + x.blots() == 1 && x.count(2) == came ? came : -9;
    }

    private void aRowsNumbers() {
        doc.says(12, "A ROW: the TAPE's bytes by fives: GRIEF, JOKE, WEIGHT, READER, SENDER: a LETTER; one that can't be, one"
                + " within which the TAPE ends, one for which there is no room is a BLOT: none.");
        for (int b = 0; b <= 255; b++) {
            due("a row of grief " + b, b <= 30 ? 1 : 0, rowOf(b, 0, 1, 0, 0));
            due("a row of joke " + b, b <= 30 ? 1 : 0, rowOf(0, b, 1, 0, 0));
            due("a row of weight " + b, b >= 1 && b <= 9 ? 1 : 0, rowOf(0, 0, b, 0, 0));
            due("a row for reader " + b, b <= 1 ? 1 : 0, rowOf(0, 0, 1, b, 0));
            due("a row of sender " + b, b <= 1 ? 1 : 0, rowOf(0, 0, 1, 0, b));
        }
        TearPost x = EdgesOfPost.withReaders(2);
        Checks.tape(x, 30, 29, 9, 1, 1);
        x.row();
        int[] want = {30, 29, 9, 1, 1, 0, 0};
        for (int what = 0; what < want.length; what++) {
            due("at(0, " + what + ")", want[what], x.at(0, what));
        }
        Checks.tape(x, 31, 0, 1, 0, 0, 1, 0, 1, 0, 0, 0, 0, 0, 0, 0, 2, 0, 1, 0, 0);
        due("what is behind a blot comes all the same", 2, x.row());
        due("blots()", 2, x.blots());
        due("at(1, 0)", 1, x.at(1, 0));
        due("at(2, 0)", 2, x.at(2, 0));
        TearPost y = new TearPost();
        Checks.tape(y, 1, 0, 1, 0, 0);
        due("a row without readers", 0, y.row());
        due("blots() without readers", 1, y.blots());
    }

    private void theTapeEndsWithin() {
        doc.says(12, "one within which the TAPE ends");
        for (int length = 1; length <= 20; length++) {
            TearPost x = EdgesOfPost.withReaders(1);
            // all that could be read as a letter, too, if what is no longer there were read
            Checks.tape(x, 1, 1, 1, 0, 0, 1, 1, 1, 0, 0, 1, 1, 1, 0, 0, 1, 1, 1, 0, 0);
            x.end(length);
            due("row() of " + length + " bytes", length / 5, x.row());
            due("blots() of " + length + " bytes", length % 5 == 0 ? 0 : 1, x.blots());
            due("count(2)", length / 5, x.count(2));
        }
    }

    private void noRoom() {
        doc.says(12, "one for which there is no room is a BLOT: none.");
        for (int letters = 9; letters <= 12; letters++) {
            TearPost x = EdgesOfPost.withLetters(letters);
            Checks.tape(x, 1, 0, 1, 0, 0, 2, 0, 1, 0, 0);
            due("row() of two behind " + letters, Math.min(2, 12 - letters), x.row());
            due("blots()", 2 - Math.min(2, 12 - letters), x.blots());
            due("count(2)", Math.min(12, letters + 2), x.count(2));
            due("it is not refused", 0, x.status());
            due("count(10)", 0, x.count(10));
        }
    }

    private void aWholeTape() {
        doc.says(12, "A ROW: the TAPE's bytes by fives: GRIEF, JOKE, WEIGHT, READER, SENDER: a LETTER");
        TearPost x = EdgesOfPost.withReaders(1);
        int[] bytes = new int[400];
        for (int k = 0; k < 400; k += 5) {
            // one that can be in each sixteen of five: the last four bytes are of a letter, too
            bytes[k] = k / 5 % 16 == 15 ? k / 16 : 99;
            bytes[k + 2] = 1;
        }
        Checks.tape(x, bytes);
        due("row() of 400 bytes", 5, x.row());
        due("blots()", 75, x.blots());
        due("at(4, 0): the last of all", 395 / 16, x.at(4, 0));
    }

    private void emptyTapes() {
        doc.says(12, "A ROW, the TAPE is empty then: how many LETTERS came. -6 the TAPE is empty.");
        TearPost x = EdgesOfPost.withReaders(1);
        due("row() of an empty tape", -6, x.row());
        due("count(2)", 0, x.count(2));
        Checks.tape(x, 1, 0, 1, 0, 0);
        due("row()", 1, x.row());
        due("count(6) behind it", 0, x.count(6));
        due("end(1) behind it", -1, x.end(1));
        due("row() again", -6, x.row());
        due("status()", -6, x.status());
        due("count(2) stays", 1, x.count(2));
        Checks.tape(x, 1);
        due("row() of one byte", 0, x.row());
        due("it is not refused", 0, x.status());
        due("count(6) behind a blot alone", 0, x.count(6));
        x.feed(1, 1, 1, 1, 1);
        x.end(0);
        due("row() of a tape that was ended at 0", -6, x.row());
    }

    private void blots() {
        doc.says(13, "How many BLOTS the latest row() had that was not REFUSED (0 ahead of any).");
        TearPost x = EdgesOfPost.withReaders(1);
        due("blots() ahead of any", 0, x.blots());
        x.row();
        due("blots() behind a refused row()", 0, x.blots());
        Checks.tape(x, 99, 0, 0, 0, 0, 1, 0, 1, 0, 0, 1);
        due("row()", 1, x.row());
        due("blots()", 2, x.blots());
        x.row();
        due("blots() behind a refused row()", 2, x.blots());
        Checks.law(x, "x");
        x.letter(99, 0, 0, 0, 0);
        due("blots() behind other calls", 2, x.blots());
        Checks.tape(x, 1, 0, 1, 0, 0);
        x.row();
        due("blots() behind a row() without any", 0, x.blots());
        Checks.tape(x, new int[400]);
        x.row();
        due("80 blots", 80, x.blots());
    }
}
