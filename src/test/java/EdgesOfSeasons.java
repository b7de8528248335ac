/** Promises 33 and 34, sentence by sentence: seasons, and what was drawn in the latest. */
final class EdgesOfSeasons {
    private final Sentences doc;

    EdgesOfSeasons(Sentences doc) {
        this.doc = doc;
    }

    private void due(String call, long want, long got) {
        doc.due(call, want, got);
    }

    void all() {
        seedsAndDays();
        noLetters();
        draws();
        howManyDays();
        readAgain();
        whatCannotBeHanded();
        theLastDay();
        onPaper();
        drawn();
        drawnOfNoOne();
        theLatest();
    }

    private static TearPost weepsOne() {
        TearPost x = EdgesOfPost.withLetters(1);
        Checks.rule(x, "weeps 1;tires 0");
        return x;
    }

    private void seedsAndDays() {
        doc.says(33, "A SEASON with a SEED, n DAYS 1 .. 60, on paper: s is the SEED (0 .. 1,000,000); a DRAW of m: s becomes (s times 1103"
                + " and 12345) modulo 1,000,003, it is s modulo m.");
        doc.range("season(seed, 1)", 0, 1000000, 1, -1, seed -> weepsOne().season(seed, 1));
        for (int n = 1; n <= 60; n++) {
            due("season(5, " + n + ")", n, weepsOne().season(5, n));
        }
        for (int n : new int[] {0, 61, -1, 1000, Integer.MIN_VALUE, Integer.MAX_VALUE}) {
            due("season(5, " + n + ")", -1, weepsOne().season(5, n));
            due("season(-1, " + n + ")", -1, weepsOne().season(-1, n));
        }
    }

    private void noLetters() {
        doc.says(33, "A SEASON, kept as the latest: what was paid. -1; -3 there are no LETTERS.");
        doc.range("season(seed, 1) without letters", 0, 1000000, -3, -1, seed -> EdgesOfPost.withReaders(1).season(seed, 1));
        doc.range("season(5, n) without letters", 1, 60, -3, -1, n -> EdgesOfPost.withReaders(1).season(5, n));
        due("season(5, 1) without readers", -3, new TearPost().season(5, 1));
        TearPost x = EdgesOfPost.withLetters(1);
        x.hand(0, -1);
        due("one that is read is a letter, too", 5, x.season(5, 1));
    }

    /** Which letter was drawn is told by what is paid for it: its number. */
    private void draws() {
        doc.says(33, "a DRAW of m: s becomes (s times 1103 and 12345) modulo 1,000,003, it is s modulo m.");
        for (int letters : new int[] {1, 2, 3, 7, 11, 12}) {
            for (int seed : new int[] {0, 1, 5, 906, 907, 12345, 999999, 1000000}) {
                TearPost x = EdgesOfPost.withReaders(1);
                for (int k = 0; k < letters; k++) {
                    x.letter(k, 0, 1, 0, 0);
                }
                Checks.rule(x, "weeps grief;tires 0");
                long s = seed;
                int sum = 0;
                for (int n = 1; n <= 8; n++) {
                    s = (s * 1103 + 12345) % 1000003;
                    sum += (int) (s % letters);
                    due("season(" + seed + ", " + n + ") of " + letters, sum, x.season(seed, n));
                }
            }
        }
    }

    private void howManyDays() {
        doc.says(33, "Each DAY a DRAW of LETTERS: it is HANDED by itself, if it can be");
        TearPost x = EdgesOfPost.withLetters(1);
        Checks.rule(x, "weeps day+1;tires 10;rests 3+had");
        // one a day, each behind the rest of the day ahead of it
        int sum = 0;
        int tired = 0;
        for (int n = 1; n <= 6; n++) {
            sum += n;
            tired = Math.max(0, tired + 10 - 3 - n);
            due("season(9, " + n + ")", sum, x.season(9, n));
            due("tired behind it", tired, x.drawn(0, 2));
            due("read in it", n, x.drawn(0, 1));
        }
    }

    private void readAgain() {
        doc.says(33, "(a LETTER that is READ counts as HELD here: it is read again; PAID for it is what was latest);");
        TearPost x = EdgesOfPost.withLetters(1);
        Checks.rule(x, "weeps 100+had;tires 0");
        x.hand(0, -1);
        due("season(5, 3)", 101 + 102 + 103, x.season(5, 3));
        due("drawn(0, 1)", 3, x.drawn(0, 1));
        due("on paper: paid for it", 100, x.at(0, 6));
        due("on paper: it is read", 1, x.at(0, 5));
        TearPost y = EdgesOfPost.withLetters(1);
        due("season(5, 60) of one that is held", 60, y.season(5, 60) > 0 ? y.drawn(0, 1) : -9);
        due("it is held still", 0, y.at(0, 5));
    }

    private void whatCannotBeHanded() {
        doc.says(33, "it is HANDED by itself, if it can be");
        TearPost x = new TearPost();
        x.reader(1, 3);
        x.letter(9, 0, 1, 0, 0);
        x.tire(0, 8);
        due("no road leads there", 0, x.season(5, 2));
        due("none is read", 0, x.drawn(0, 1));
        due("a day goes by all the same", 2, x.drawn(0, 2));
        x.road(3, 0);
        due("a road", 1, x.season(5, 1));
        Checks.rule(x, "bars if day<2;weeps 7;tires 0");
        due("barred at first", 7 * 58, x.season(5, 60));
        due("read in it", 58, x.drawn(0, 1));
        Checks.rule(x, "bars");
        due("barred", 0, x.season(5, 60));
        due("none is read", 0, x.drawn(0, 1));
        Checks.rule(x, "laughs");
        due("laughed at", 0, x.season(5, 60));
        due("all are read", 60, x.drawn(0, 1));
        TearPost y = new TearPost();
        y.road(0, 2);
        y.road(4, 0);
        int[] drawn = new int[6];
        for (int r = 0; r < 6; r++) {
            y.reader(1, r);
        }
        for (int k = 0; k < 6; k++) {
            y.letter(20, 0, 1, 5 - k, 0);
        }
        Checks.rule(y, "weeps 7;tires 0");
        y.hand(1, -1);
        y.hand(5, -1);
        long s = 31;
        for (int n = 0; n < 40; n++) {
            s = (s * 1103 + 12345) % 1000003;
            drawn[5 - (int) (s % 6)]++;
        }
        due("those in towns 0, 2, 4", 7 * (drawn[0] + drawn[2] + drawn[4]), y.season(31, 40));
        for (int r = 0; r < 6; r++) {
            due("read by " + r, r % 2 == 0 ? drawn[r] : 0, y.drawn(r, 1));
            due("paid by " + r + " in it", r % 2 == 0 ? 7 * drawn[r] : 0, y.drawn(r, 0));
        }
    }

    private void theLastDay() {
        doc.says(33, "then a DAY (beyond 999 it ends there).");
        for (int day = 990; day <= 999; day++) {
            TearPost x = EdgesOfPost.withLetters(1);
            x.terms(0, day);
            Checks.rule(x, "weeps 1;tires 10;rests 1");
            int days = 1000 - day;
            due("season(5, 60) from day " + day, days, x.season(5, 60));
            due("read in it", days, x.drawn(0, 1));
            due("no rest behind 999", 9 * days + 1, x.drawn(0, 2));
            due("season(5, " + days + ") from day " + day, days, x.season(5, days));
            due("no rest behind 999", 9 * days + 1, x.drawn(0, 2));
            due("the day", day, x.count(14));
            if (days > 1) {
                due("season(5, " + (days - 1) + ") from day " + day, days - 1, x.season(5, days - 1));
                due("a rest ahead of 999", 9 * (days - 1), x.drawn(0, 2));
            }
        }
        for (int day = 938; day <= 942; day++) {
            TearPost x = EdgesOfPost.withLetters(1);
            x.terms(0, day);
            Checks.rule(x, "weeps 1;tires 1;rests 1");
            due("sixty days from day " + day, Math.min(60, 1000 - day), x.season(5, 60));
            due("a rest behind the last of them", day <= 939 ? 0 : 1, x.drawn(0, 2));
        }
    }

    private void onPaper() {
        doc.says(33, "A SEASON with a SEED, n DAYS 1 .. 60, on paper");
        TearPost x = EdgesOfPost.withLetters(3);
        x.hand(1, -1);
        x.pass();
        x.season(77, 60);
        int[] counts = {0, 1, 3, 2, 0, 2, 0, 0, 0, 0, 0, 0, -1, 10, 1, 10, 0};
        for (int what = 0; what < counts.length; what++) {
            due("count(" + what + ")", counts[what], x.count(what));
        }
        int[] reader = {1, 0, 2, 1, 0, 10, -1};
        for (int what = 0; what < reader.length; what++) {
            due("of(0, " + what + ")", reader[what], x.of(0, what));
        }
        due("held", 0, x.at(0, 5) + x.at(2, 5));
        due("the day can be undone", 2, x.undo());
        due("the letter can be undone", 0, x.undo());
    }

    private void drawn() {
        doc.says(34, "Of a READER in the latest SEASON what was PAID (what 0), how many letters were read (1), TIRED behind it (2). NONE.");
        TearPost x = EdgesOfPost.withReaders(8);
        for (int r = 0; r < 8; r++) {
            due("drawn(" + r + ", 0) ahead of any", -1, x.drawn(r, 0));
            x.letter(1 + r, 0, 1, r, 0);
            x.tire(r, 999 - 100 * r);
        }
        Checks.rule(x, "weeps grief;tires grief;rests 1");
        long s = 4711;
        int[] read = new int[8];
        int[] tired = new int[8];
        for (int n = 0; n < 10; n++) {
            s = (s * 1103 + 12345) % 1000003;
            read[(int) (s % 8)]++;
        }
        s = 4711;
        for (int r = 0; r < 8; r++) {
            tired[r] = 999 - 100 * r;
        }
        for (int n = 0; n < 10; n++) {
            s = (s * 1103 + 12345) % 1000003;
            int r = (int) (s % 8);
            tired[r] = Math.min(999, tired[r] + r + 1);
            for (int each = 0; each < 8; each++) {
                tired[each]--;
            }
        }
        x.season(4711, 10);
        for (int r = 0; r < 8; r++) {
            due("drawn(" + r + ", 0)", read[r] * (r + 1), x.drawn(r, 0));
            due("drawn(" + r + ", 1)", read[r], x.drawn(r, 1));
            due("drawn(" + r + ", 2)", tired[r], x.drawn(r, 2));
            due("drawn(" + r + ", 3)", -1, x.drawn(r, 3));
            due("drawn(" + r + ", -1)", -1, x.drawn(r, -1));
        }
        for (int what = -1; what <= 3; what++) {
            due("drawn(8, " + what + ")", -1, x.drawn(8, what));
            due("drawn(-1, " + what + ")", -1, x.drawn(-1, what));
        }
    }

    private void drawnOfNoOne() {
        doc.says(34, "TIRED behind it (2). NONE.");
        TearPost x = EdgesOfPost.withLetters(1);
        x.hand(0, -1);
        x.season(5, 1);
        due("what was paid ahead of it is not of it", 5, x.drawn(0, 0));
        due("nor what was read", 1, x.drawn(0, 1));
        for (int far : new int[] {-1, 1, 8, Integer.MIN_VALUE, Integer.MAX_VALUE}) {
            due("drawn(" + far + ", 0)", -1, x.drawn(far, 0));
        }
        for (int far : new int[] {-1, 3, Integer.MIN_VALUE, Integer.MAX_VALUE}) {
            due("drawn(0, " + far + ")", -1, x.drawn(0, far));
        }
    }

    private void theLatest() {
        doc.says(33, "A SEASON, kept as the latest: what was paid.");
        TearPost x = EdgesOfPost.withLetters(1);
        due("season(5, 61), refused ahead of any", -1, x.season(5, 61));
        due("drawn(0, 0) behind it", -1, x.drawn(0, 0));
        due("season(5, 1)", 10, x.season(5, 1));
        due("drawn(0, 0)", 10, x.drawn(0, 0));
        due("drawn(0, 2)", 2, x.drawn(0, 2));
        due("a refused one", -1, x.season(1000001, 1));
        due("the latest is as it was", 10, x.drawn(0, 0));
        x.tire(0, 3);
        due("drawn(0, 2) is of then", 2, x.drawn(0, 2));
        due("season(5, 1)", 7, x.season(5, 1));
        due("drawn(0, 0) of the latest", 7, x.drawn(0, 0));
        due("drawn(0, 2) of the latest", 5, x.drawn(0, 2));
    }
}
