/** Promises 21 to 24, sentence by sentence: to hand, to send onward, a day, and what can be undone. */
final class EdgesOfHanding {
    private final Sentences doc;

    EdgesOfHanding(Sentences doc) {
        this.doc = doc;
    }

    private void due(String call, long want, long got) {
        doc.due(call, want, got);
    }

    void all() {
        lettersThatAreNone();
        lettersThatCannotBe();
        whoIsReached();
        laughedAt();
        whatIsOwed();
        theWeightsParts();
        anyTwoOfTwelve();
        hadAndTired();
        askedAsAheadOfIt();
        theOffice();
        ink();
        whatIsSentOnward();
        griefAtLeast();
        anyOfTwelveOnward();
        onwardRefused();
        days();
        theLastDay();
        theDayThatEnds();
        sixteenAreKept();
        whatIsUndone();
        nothingToUndo();
        whatEndsUndoing();
        whatDoesNotEndUndoing();
    }

    private void lettersThatAreNone() {
        doc.says(21, "To HAND one (other NONE) or two: what is paid. -2; -3.");
        for (int many : new int[] {1, 3, 12}) {
            doc.range("hand(letter, -1) of " + many, 0, many - 1, 10, -2, k -> EdgesOfPost.withLetters(many).hand(k, -1));
            for (int other : new int[] {-2, many, Integer.MIN_VALUE, Integer.MAX_VALUE}) {
                due("hand(0, " + other + ") of " + many, -2, EdgesOfPost.withLetters(many).hand(0, other));
            }
        }
        for (int other = 1; other <= 11; other++) {
            due("hand(0, " + other + ") of twelve", 20, EdgesOfPost.withLetters(12).hand(0, other));
            due("hand(" + other + ", 0) of twelve", 20, EdgesOfPost.withLetters(12).hand(other, 0));
        }
        due("hand(-1, -1)", -2, EdgesOfPost.withLetters(2).hand(-1, -1));
        due("hand(-1, 0)", -2, EdgesOfPost.withLetters(2).hand(-1, 0));
        due("hand(2, 2)", -2, EdgesOfPost.withLetters(2).hand(2, 2));
        TearPost x = EdgesOfPost.withLetters(2);
        x.hand(0, -1);
        due("the first is read, there is no such other", -2, x.hand(0, 5));
        due("there is no such first, the other is read", -2, x.hand(5, 0));
        due("status()", -2, x.status());
    }

    private void lettersThatCannotBe() {
        doc.says(21, "To HAND one LETTER, or two for the same READER, that are HELD: not BARRED, and that one's TOWN can be reached"
                + " from TOWN 0 by ROADS.");
        TearPost x = EdgesOfPost.withReaders(2);
        x.letter(10, 0, 1, 0, 0);
        x.letter(10, 0, 1, 1, 0);
        x.letter(10, 0, 1, 0, 0);
        due("the same one", -3, x.hand(0, 0));
        due("for two readers", -3, x.hand(0, 1));
        due("for two readers", -3, x.hand(1, 0));
        due("all are held", 3, x.count(3));
        due("for the same reader", 20, x.hand(0, 2));
        due("the first again", -3, x.hand(0, -1));
        due("the other again", -3, x.hand(2, -1));
        due("both again", -3, x.hand(2, 0));
        due("one of another sender", 20, x.hand(1, -1));
        TearPost y = EdgesOfPost.withLetters(2);
        y.hand(1, -1);
        due("the first is held, the other is read", -3, y.hand(0, 1));
        due("the first is read, the other is held", -3, y.hand(1, 0));
        Checks.rule(y, "bars if with=1");
        due("barred", -3, y.hand(0, -1));
        due("count(9)", 3, y.count(9));
        TearPost z = EdgesOfPost.withLetters(2);
        Checks.rule(z, "bars if with=2");
        due("two at once are barred", -3, z.hand(0, 1));
        due("one is not", 10, z.hand(0, -1));
    }

    private void whoIsReached() {
        doc.says(21, "that one's TOWN can be reached from TOWN 0 by ROADS.");
        for (int town = 1; town <= 7; town++) {
            TearPost x = new TearPost();
            x.reader(1, town);
            for (int k = 0; k < 3; k++) {
                x.letter(20, 0, 1, 0, 0);
            }
            due("no road to " + town, -3, x.hand(0, -1));
            int far = town == 7 ? 6 : 7;
            x.road(far, town);
            due("a road to " + town + " from where none leads", -3, x.hand(0, -1));
            x.road(0, far);
            due("two roads to " + town, 20, x.hand(0, -1));
            x.mow();
            due("one of them mown", -3, x.hand(1, -1));
            x.road(town, 0);
            due("a road of its own to " + town, 10, x.hand(1, -1));
        }
        TearPost line = new TearPost();
        line.reader(1, 7);
        line.letter(5, 0, 1, 0, 0);
        for (int town = 7; town > 0; town--) {
            due("a line up to town " + town, -3, line.hand(0, -1));
            line.road(town, town - 1);
        }
        due("a line of seven roads", 5, line.hand(0, -1));
    }

    private void laughedAt() {
        doc.says(21, "It is asked whether one LAUGHS: nothing is paid then; else what one WEEPS is PAID (OFFICE, READER; OWED is one"
                + " more, if that is 0).");
        for (int joke = 9; joke <= 11; joke++) {
            TearPost x = EdgesOfPost.withReaders(1);
            x.letter(10, joke, 1, 0, 0);
            int paid = joke > 10 ? 0 : 10;
            due("hand() by joke " + joke, paid, x.hand(0, -1));
            due("the office", paid, x.count(13));
            due("the reader", paid, x.of(0, 5));
            due("the letter", paid, x.at(0, 6));
            due("read", 1, x.at(0, 5));
            due("had", 1, x.of(0, 3));
            due("tired", 5, x.of(0, 2));
            due("owed", 0, x.of(0, 4));
        }
    }

    private void whatIsOwed() {
        doc.says(21, "OWED is one more, if that is 0");
        int[][] rows = {{10, 0, 9, 1, 0}, {10, 0, 10, 0, 1}, {10, 0, 11, 0, 1}, {0, 0, 0, 0, 1}, {0, 1, 0, 0, 0}, {1, 0, 0, 1, 0}};
        for (int[] row : rows) {
            TearPost x = EdgesOfPost.withReaders(1);
            x.letter(row[0], row[1], 1, 0, 0);
            x.tire(0, row[2]);
            String what = "grief " + row[0] + ", joke " + row[1] + ", tired " + row[2];
            due("hand() by " + what, row[3], x.hand(0, -1));
            due("owed by " + what, row[4], x.of(0, 4));
        }
    }

    private void theWeightsParts() {
        doc.says(21, "Of two the first is PAID the part of its WEIGHT (cut), the second the rest.");
        for (int first = 1; first <= 9; first++) {
            for (int second = 1; second <= 9; second++) {
                for (int tears : new int[] {0, 1, 17, 999}) {
                    TearPost x = EdgesOfPost.withReaders(1);
                    x.letter(1, 0, second, 0, 0);
                    x.letter(1, 0, first, 0, 1);
                    Checks.rule(x, "weeps " + tears);
                    due("hand(1, 0)", tears, x.hand(1, 0));
                    String what = " of " + tears + " by " + first + " and " + second;
                    due("the first one's part" + what, tears * first / (first + second), x.at(1, 6));
                    due("the second one's rest" + what, tears - tears * first / (first + second), x.at(0, 6));
                }
            }
        }
        TearPost y = EdgesOfPost.withReaders(1);
        y.letter(1, 9, 1, 0, 0);
        y.letter(1, 9, 1, 0, 0);
        due("laughed at", 0, y.hand(0, 1));
        due("parts of nothing", 0, y.at(0, 6) + y.at(1, 6));
    }

    private void anyTwoOfTwelve() {
        doc.says(21, "Of two the first is PAID the part of its WEIGHT (cut), the second the rest.");
        for (int first = 0; first < 12; first++) {
            for (int second = 0; second < 12; second++) {
                TearPost x = EdgesOfPost.withReaders(8);
                for (int k = 0; k < 12; k++) {
                    x.letter(5, 0, 1 + k % 9, 7, 0);
                }
                String of = "hand(" + first + ", " + second + ")";
                due(of, first == second ? -3 : 80, x.hand(first, second));
                for (int k = 0; k < 12; k++) {
                    boolean read = first != second && (k == first || k == second);
                    int part = 80 * (1 + first % 9) / (2 + first % 9 + second % 9);
                    due(k + " is read behind " + of, read ? 1 : 0, x.at(k, 5));
                    due("paid for " + k + " behind " + of, !read ? 0 : k == first ? part : 80 - part, x.at(k, 6));
                }
                for (int r = 0; r < 8; r++) {
                    boolean reads = r == 7 && first != second;
                    due("had of " + r, reads ? 2 : 0, x.of(r, 3));
                    due("paid of " + r, reads ? 80 : 0, x.of(r, 5));
                    due("tired of " + r, reads ? 5 : 0, x.of(r, 2));
                }
            }
        }
    }

    private void hadAndTired() {
        doc.says(21, "They are READ; HAD is as many more; TIRED is more by what that TIRES (999 at most; asked as ahead of it).");
        for (int tired : new int[] {0, 984, 985, 994, 995, 999}) {
            TearPost x = EdgesOfPost.withReaders(2);
            x.letter(10, 0, 1, 0, 0);
            x.letter(20, 0, 1, 0, 0);
            x.tire(0, tired);
            x.image(0);
            x.hand(0, -1);
            due("tired by 5 behind " + tired, Math.min(999, tired + 5), x.of(0, 2));
            due("had one", 1, x.of(0, 3));
            due("read", 1, x.at(0, 5));
            due("the other one is held", 0, x.at(1, 5));
            x.back(0);
            x.hand(0, 1);
            due("tired by 15 behind " + tired, Math.min(999, tired + 15), x.of(0, 2));
            due("had two", 2, x.of(0, 3));
            due("both are read", 2, x.at(0, 5) + x.at(1, 5));
            due("another reader had none", 0, x.of(1, 3));
            due("another reader is not tired", 0, x.of(1, 2));
        }
    }

    private void askedAsAheadOfIt() {
        doc.says(21, "TIRED is more by what that TIRES (999 at most; asked as ahead of it).");
        TearPost x = EdgesOfPost.withLetters(3);
        Checks.rule(x, "tires had*10+tired+1;weeps 100-tired-had;laughs if had=2;bars if had=3");
        due("hand(0)", 100, x.hand(0, -1));
        due("tired by 1", 1, x.of(0, 2));
        due("hand(1)", 98, x.hand(1, -1));
        due("tired by 12", 13, x.of(0, 2));
        due("hand(2): had is 2", 0, x.hand(2, -1));
        due("tired by 34", 47, x.of(0, 2));
        due("owed", 0, x.of(0, 4));
    }

    private void theOffice() {
        doc.says(37, "The OFFICE: all that was PAID.");
        TearPost x = EdgesOfPost.withReaders(8);
        for (int r = 0; r < 8; r++) {
            x.letter(2, 0, 1, r, 0);
        }
        int sum = 0;
        for (int r = 0; r < 8; r++) {
            due("the office ahead of letter " + r, sum, x.count(13));
            x.hand(r, -1);
            sum += 2 * (r + 1);
        }
        due("the office", 72, x.count(13));
        x.terms(1, 2);
        x.onward(7, 0);
        due("the office behind onward()", 72, x.count(13));
        x.undo();
        x.pass();
        due("the office behind a day", 72, x.count(13));
    }

    private void ink() {
        doc.says(22, "A LETTER that is READ and was PAID INK or more can be sent ONWARD to another READER: HELD for that one, GRIEF one"
                + " less (0 at least), PAID 0 (OFFICE, READERS keep what was).");
        for (int ink : new int[] {1, 2, 10, 98, 99}) {
            for (int paid = Math.max(0, ink - 2); paid <= ink + 1; paid++) {
                TearPost x = EdgesOfPost.withReaders(2);
                x.letter(5, 0, 1, 0, 0);
                x.terms(1, ink);
                Checks.rule(x, "weeps " + paid);
                x.hand(0, -1);
                due("onward() by ink " + ink + ", paid " + paid, paid >= ink ? 4 : -3, x.onward(0, 1));
                due("held behind it", paid >= ink ? 0 : 1, x.at(0, 5));
            }
        }
        TearPost y = EdgesOfPost.withReaders(2);
        y.letter(10, 11, 1, 0, 0);
        y.terms(1, 1);
        y.hand(0, -1);
        due("laughed at, ink 1", -3, y.onward(0, 1));
        TearPost z = EdgesOfPost.withReaders(2);
        z.letter(10, 0, 1, 0, 0);
        z.letter(9, 0, 9, 0, 0);
        z.terms(1, 1);
        due("two at once", 19, z.hand(0, 1));
        due("the first one's part is 1", 1, z.at(0, 6));
        due("onward() of it", 9, z.onward(0, 1));
        z.undo();
        z.terms(1, 2);
        due("onward() of it by ink 2", -3, z.onward(0, 1));
    }

    private void whatIsSentOnward() {
        doc.says(22, "HELD for that one, GRIEF one less (0 at least), PAID 0 (OFFICE, READERS keep what was).");
        TearPost x = EdgesOfPost.withReaders(3);
        x.letter(30, 7, 5, 0, 1);
        x.hand(0, -1);
        x.tire(0, 15);
        due("onward(0, 2)", 29, x.onward(0, 2));
        int[] want = {29, 7, 5, 2, 1, 0, 0};
        int[] keeps = {1, 0, 15, 1, 0, 30, -1};
        for (int what = 0; what <= 6; what++) {
            due("at(0, " + what + ")", want[what], x.at(0, what));
            due("of(0, " + what + ")", keeps[what], x.of(0, what));
        }
        due("the office", 30, x.count(13));
        due("held", 1, x.count(3));
        due("paid by the other one", 0, x.of(2, 5));
        due("handed again", 87, x.hand(0, -1));
        due("the office", 117, x.count(13));
        due("onward(0, 0)", 28, x.onward(0, 0));
        due("reader 0 had one", 1, x.of(0, 3));
    }

    private void griefAtLeast() {
        doc.says(22, "ONWARD: GRIEF then. -2; -3 (not READ, below INK, the same READER).");
        TearPost x = EdgesOfPost.withReaders(2);
        x.letter(2, 0, 1, 0, 0);
        Checks.rule(x, "weeps 99");
        int[] want = {1, 0, 0, 0};
        for (int n = 0; n < want.length; n++) {
            x.hand(0, -1);
            due("onward() " + n, want[n], x.onward(0, 1 - n % 2));
            due("grief", want[n], x.at(0, 0));
        }
    }

    private void anyOfTwelveOnward() {
        doc.says(22, "HELD for that one, GRIEF one less (0 at least), PAID 0 (OFFICE, READERS keep what was).");
        for (int sent = 0; sent < 12; sent++) {
            TearPost x = EdgesOfPost.withReaders(8);
            for (int k = 0; k < 12; k++) {
                x.letter(30 - k, 3, 2, 6, 1);
            }
            Checks.rule(x, "weeps 50");
            for (int k = 0; k < 12; k++) {
                x.hand(k, -1);
            }
            due("onward(" + sent + ", 5)", 29 - sent, x.onward(sent, 5));
            for (int k = 0; k < 12; k++) {
                int[] want = {k == sent ? 29 - k : 30 - k, 3, 2, k == sent ? 5 : 6, 1, k == sent ? 0 : 1, k == sent ? 0 : 50};
                for (int what = 0; what <= 6; what++) {
                    due("at(" + k + ", " + what + ") behind it", want[what], x.at(k, what));
                }
            }
        }
    }

    private void onwardRefused() {
        doc.says(22, "-2; -3 (not READ, below INK, the same READER).");
        doc.range("onward(letter, 1)", 0, 0, 9, -2, letter -> readOne().onward(letter, 1));
        int[] readers = {0, 1, 2, -1, 3, Integer.MIN_VALUE, Integer.MAX_VALUE};
        int[] want = {-3, 9, 9, -2, -2, -2, -2};
        for (int k = 0; k < readers.length; k++) {
            due("onward(0, " + readers[k] + ") of reader 0's", want[k], readOne().onward(0, readers[k]));
        }
        due("onward(1, 0)", -2, readOne().onward(1, 0));
        due("onward(1, 9)", -2, readOne().onward(1, 9));
        TearPost x = EdgesOfPost.withReaders(2);
        x.letter(10, 0, 1, 0, 0);
        due("not read", -3, x.onward(0, 1));
        due("not read, for no one", -2, x.onward(0, 2));
        due("not read, for the same reader", -3, x.onward(0, 0));
        x.terms(1, 11);
        x.hand(0, -1);
        due("below ink", -3, x.onward(0, 1));
        due("below ink, for no one", -2, x.onward(0, -1));
        x.terms(1, 10);
        due("ink", 9, x.onward(0, 1));
        due("held again", -3, x.onward(0, 0));
        due("status()", -3, x.status());
        due("count(8)", 2, x.count(8));
        due("count(9)", 4, x.count(9));
    }

    /** Three readers; a letter of grief 10 that reader 0 has read and paid 10 for. */
    private static TearPost readOne() {
        TearPost x = EdgesOfPost.withReaders(3);
        x.letter(10, 0, 1, 0, 0);
        x.hand(0, -1);
        return x;
    }

    private void days() {
        doc.says(23, "A DAY: each READER's TIRED is less by what it RESTS (0 at least; asked in the day that ends), then it is the next"
                + " one (behind 999 it can't be).");
        TearPost x = EdgesOfPost.withReaders(8);
        for (int r = 0; r < 8; r++) {
            x.tire(r, r);
        }
        due("pass()", 1, x.pass());
        for (int r = 0; r < 8; r++) {
            due("tired " + r + " behind a day", Math.max(0, r - 3), x.of(r, 2));
        }
        x.tire(7, 999);
        due("pass()", 2, x.pass());
        due("tired behind 999", 996, x.of(7, 2));
        due("a day without readers", 1, new TearPost().pass());
    }

    private void theLastDay() {
        doc.says(23, "A DAY goes by: the DAY. -3 behind 999.");
        for (int day : new int[] {0, 1, 500, 997, 998}) {
            TearPost x = new TearPost();
            x.terms(0, day);
            due("pass() behind " + day, day + 1, x.pass());
            due("count(14)", day + 1, x.count(14));
        }
        TearPost y = EdgesOfPost.withReaders(1);
        y.tire(0, 9);
        y.terms(0, 999);
        due("pass() behind 999", -3, y.pass());
        due("count(14)", 999, y.count(14));
        due("tired", 9, y.of(0, 2));
        due("count(5)", 0, y.count(5));
        y.terms(0, 998);
        due("pass() to 999", 999, y.pass());
        due("pass() behind it", -3, y.pass());
        due("tired", 6, y.of(0, 2));
    }

    private void theDayThatEnds() {
        doc.says(23, "asked in the day that ends");
        TearPost x = EdgesOfPost.withReaders(2);
        x.tire(0, 100);
        x.tire(1, 100);
        Checks.rule(x, "rests day*10+reader");
        int tired = 100;
        for (int day = 0; day < 4; day++) {
            tired -= day * 10;
            x.pass();
            due("tired 0 behind day " + day, tired, x.of(0, 2));
            due("tired 1 behind day " + day, tired - day - 1, x.of(1, 2));
        }
        // each reader's rest is asked of that one alone
        TearPost y = EdgesOfPost.withReaders(2);
        y.tire(0, 10);
        y.tire(1, 10);
        Checks.rule(y, "rests tired/2 if reader=0;rests 1 if reader=1");
        y.pass();
        due("tired 0", 5, y.of(0, 2));
        due("tired 1", 9, y.of(1, 2));
    }

    private void sixteenAreKept() {
        doc.says(24, "The latest hand(), onward(), pass() (by ORDERS, too; 16 are kept) is undone: 0, 1, 2.");
        for (int many = 0; many <= 35; many++) {
            TearPost x = new TearPost();
            for (int k = 0; k < many; k++) {
                x.pass();
            }
            due("count(5) behind " + many, Math.min(16, many), x.count(5));
            for (int k = 1; k <= Math.min(16, many); k++) {
                due("undo() " + k + " behind " + many, 2, x.undo());
                due("the day", many - k, x.count(14));
                due("count(5)", Math.min(16, many) - k, x.count(5));
            }
            due("one undo() more behind " + many, -3, x.undo());
            due("the day", Math.max(0, many - 16), x.count(14));
        }
        TearPost y = EdgesOfPost.withLetters(1);
        due("by orders", 17, Checks.orders(y, "hand 0;pass times 16"));
        due("count(5)", 16, y.count(5));
        for (int k = 0; k < 16; k++) {
            due("undo() of a day by orders", 2, y.undo());
        }
        due("the 17th is not kept", -3, y.undo());
        due("it is read still", 1, y.at(0, 5));
    }

    private void whatIsUndone() {
        doc.says(24, "The latest hand(), onward(), pass() (by ORDERS, too; 16 are kept) is undone: 0, 1, 2.");
        TearPost x = EdgesOfPost.withReaders(2);
        x.letter(0, 0, 1, 1, 0);
        x.letter(20, 0, 3, 0, 0);
        x.letter(20, 0, 3, 0, 1);
        Checks.orders(x, "hand 0;hand 1 with 2;pass");
        x.onward(1, 1);
        due("undo() of onward()", 1, x.undo());
        int[] read = {20, 0, 3, 0, 0, 1, 20};
        for (int what = 0; what <= 6; what++) {
            due("at(1, " + what + ")", read[what], x.at(1, what));
        }
        due("undo() of a day", 2, x.undo());
        due("the day", 0, x.count(14));
        due("tired", 20, x.of(0, 2));
        due("undo() of two letters", 0, x.undo());
        for (int what = 2; what <= 5; what++) {
            due("of(0, " + what + ")", 0, x.of(0, what));
        }
        due("held", 2, x.count(3));
        due("paid for them", 0, x.at(1, 6) + x.at(2, 6));
        due("the office", 0, x.count(13));
        due("owed", 1, x.of(1, 4));
        due("undo() of one letter", 0, x.undo());
        due("owed", 0, x.of(1, 4));
        due("held", 3, x.count(3));
        due("the way there again", 0, x.hand(0, -1));
        due("what was undone can't be done again by it", 0, x.undo());
        due("undo() of nothing", -3, x.undo());
    }

    private void nothingToUndo() {
        doc.says(24, "-3 there is none (nothing that was ahead of a reader(), tire(), letter(), row(), terms() that was not REFUSED"
                + " can be undone).");
        TearPost x = EdgesOfPost.withLetters(1);
        due("undo() of nothing", -3, x.undo());
        x.hand(0, 0);
        x.onward(0, 0);
        x.hand(9, 9);
        due("refused calls are not kept", -3, x.undo());
        due("count(5)", 0, x.count(5));
        x.terms(0, 999);
        x.pass();
        due("nor is a refused day", -3, x.undo());
        Checks.orders(x, "hand 0;pass");
        due("nor are orders that can't be", -3, x.undo());
        due("count(9)", 8, x.count(9));
    }

    private interface Call {
        void on(TearPost x);
    }

    /** Two days, a call, and a day: how many of them can be undone, ahead of the third day and behind it. */
    private void between(String name, Call call, int left) {
        TearPost x = EdgesOfPost.withLetters(2);
        x.road(0, 1);
        x.image(1);
        x.pass();
        x.pass();
        Checks.tape(x, 1, 0, 1, 0, 0);
        call.on(x);
        due("count(5) behind " + name, left, x.count(5));
        due("undo() behind " + name, left == 0 ? -3 : 2, x.undo());
        int day = x.count(14);
        x.pass();
        due("what is behind " + name + " can be undone", 2, x.undo());
        due("the day", day, x.count(14));
    }

    private void whatEndsUndoing() {
        doc.says(24, "nothing that was ahead of a reader(), tire(), letter(), row(), terms() that was not REFUSED can be undone");
        between("reader(0, 0)", x -> x.reader(0, 0), 0);
        between("tire(0, 5)", x -> x.tire(0, 5), 0);
        between("tire(0, 0), which changes nothing", x -> x.tire(0, 0), 0);
        between("letter(..)", x -> x.letter(0, 0, 1, 0, 0), 0);
        between("row()", x -> x.row(), 0);
        between("row() of a blot alone", x -> {
            x.end(1);
            x.row();
        }, 0);
        between("terms(0, 5)", x -> x.terms(0, 5), 0);
        between("terms(1, 10), which changes nothing", x -> x.terms(1, 10), 0);
        between("terms(2, 5)", x -> x.terms(2, 5), 0);
        between("back(1)", x -> x.back(1), 0);
    }

    private void whatDoesNotEndUndoing() {
        doc.says(24, "nothing that was ahead of a reader(), tire(), letter(), row(), terms() that was not REFUSED can be undone");
        between("reader(10, 0)", x -> x.reader(10, 0), 2);
        between("tire(0, 1000)", x -> x.tire(0, 1000), 2);
        between("tire(1, 0)", x -> x.tire(1, 0), 2);
        between("letter(31, ..)", x -> x.letter(31, 0, 1, 0, 0), 2);
        between("letter(.., 1, 0)", x -> x.letter(0, 0, 1, 1, 0), 2);
        between("row() of an empty tape", x -> {
            x.end(0);
            x.row();
        }, 2);
        between("terms(0, 1000)", x -> x.terms(0, 1000), 2);
        between("terms(3, 0)", x -> x.terms(3, 0), 2);
        between("back(0)", x -> x.back(0), 2);
        between("back(2)", x -> x.back(2), 2);
        between("road(), mow()", x -> {
            x.road(1, 2);
            x.mow();
            x.mow();
        }, 2);
        between("ledger(0, 5)", x -> x.ledger(0, 5), 2);
        between("law(), force()", x -> Checks.rule(x, "weeps 3"), 2);
        between("law() that can't be", x -> Checks.law(x, "x"), 2);
        between("orders() that run nothing", x -> Checks.orders(x, "pass if 1=2"), 2);
        between("orders() that can't be", x -> Checks.orders(x, "pass;hand 9"), 2);
        between("image(0)", x -> x.image(0), 2);
        between("season(5, 60)", x -> x.season(5, 60), 2);
        between("what is asked on paper", x -> {
            x.order(0, -1);
            x.game(0, 0);
            x.joked(-1);
            x.inside(0, 5, -1);
            x.bags(9, 0);
            x.cut(0, 0);
        }, 2);
        // what is undone is what those calls did, and nothing else
        TearPost y = EdgesOfPost.withLetters(2);
        y.hand(0, -1);
        y.road(3, 4);
        y.ledger(0, 77);
        Checks.rule(y, "weeps 3");
        due("undo()", 0, y.undo());
        due("roads stay", 1, y.count(0));
        due("ledgers stay", 77, y.of(0, 6));
        due("laws stay", 1, y.count(4));
        due("the law in force stays", 0, y.count(12));
        due("the letter is held", 2, y.count(3));
    }
}
