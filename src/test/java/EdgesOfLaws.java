/** Promises 18 to 20, sentence by sentence: the law in force, what it tells, and what is so without it. */
final class EdgesOfLaws {
    private static final int WEEPS = 0;
    private static final int LAUGHS = 1;
    private static final int TIRES = 2;
    private static final int BARS = 3;

    private final Sentences doc;

    EdgesOfLaws(Sentences doc) {
        this.doc = doc;
    }

    private void due(String call, long want, long got) {
        doc.due(call, want, got);
    }

    void all() {
        force();
        asks();
        askedOfLettersThatAreRead();
        rests();
        sumsAndTheirEdges();
        dividing();
        orAndAnd();
        comparing();
        whatIsAskedOf();
        whatIsAskedOfTwo();
        whatIsAskedOfAnyTwo();
        laughing();
        holding();
        weeping();
        weepingWithout();
        tiring();
        resting();
        barring();
    }

    /** Reader 0 and reader 1 (soft 4, tired 6, had 0); letters 0 and 1 are for reader 1, letter 2 for reader 0. */
    private static TearPost post() {
        TearPost x = new TearPost();
        x.reader(2, 0);
        x.reader(4, 5);
        x.letter(10, 7, 3, 1, 0);
        x.letter(5, 9, 8, 1, 1);
        x.letter(3, 3, 1, 0, 0);
        x.tire(1, 6);
        return x;
    }

    /** What one weeps at letter 0 by a law: 34 (10 times 4, less 6) if it tells nothing. */
    private void weeps(String law, int want) {
        TearPost x = post();
        Checks.rule(x, law);
        due("what one weeps by '" + law + "'", want, x.asks(0, -1, WEEPS));
    }

    private void isSo(String test, boolean want) {
        TearPost x = post();
        Checks.rule(x, "weeps 1 if " + test + ";laughs if " + test + ";bars if " + test);
        due("what one weeps if " + test, want ? 1 : 34, x.asks(0, -1, WEEPS));
        due("whether one laughs if " + test, want ? 1 : 0, x.asks(0, -1, LAUGHS));
        due("whether it is barred if " + test, want ? 1 : 0, x.asks(0, -1, BARS));
    }

    private void force() {
        doc.says(18, "A LAW is in FORCE (NONE: none): which was. -2.");
        TearPost x = post();
        due("force(NONE) of none", -1, x.force(-1));
        due("it is not refused", 0, x.status());
        for (int law : new int[] {-2, 0, 1, 6, Integer.MIN_VALUE, Integer.MAX_VALUE}) {
            due("force(" + law + ") without laws", -2, x.force(law));
        }
        for (int k = 0; k < 6; k++) {
            due("force(" + k + ") of " + k + " laws", -2, x.force(k));
            Checks.law(x, "weeps " + k);
            due("count(12)", -1, x.count(12));
        }
        due("force(5), the last", -1, x.force(5));
        due("force(6), beyond", -2, x.force(6));
        due("force(-2), beyond", -2, x.force(-2));
        due("count(12) behind them", 5, x.count(12));
        due("force(0)", 5, x.force(0));
        due("force(0) again", 0, x.force(0));
        due("what it tells", 0, x.asks(0, -1, WEEPS));
        due("force(NONE)", 0, x.force(-1));
        due("without a law", 34, x.asks(0, -1, WEEPS));
        due("force(1)", -1, x.force(1));
        due("what it tells", 1, x.asks(0, -1, WEEPS));
    }

    private void asks() {
        doc.says(19, "Of LETTERS (other NONE: one alone) for the same READER, READ or not, what one would WEEP (what 0), whether"
                + " LAUGH (1: 1, 0), what it TIRES by (2), whether BARRED (3: 1, 0). NONE (of another READER, the same one).");
        TearPost x = post();
        int[] alone = {34, 0, 5, 0};
        int[] other = {14, 1, 2, 0};
        int[] both = {54, 1, 7, 0};
        for (int what = 0; what <= 3; what++) {
            due("asks(0, -1, " + what + ")", alone[what], x.asks(0, -1, what));
            due("asks(1, -1, " + what + ")", other[what], x.asks(1, -1, what));
            due("asks(0, 1, " + what + ")", both[what], x.asks(0, 1, what));
            due("asks(1, 0, " + what + ")", both[what], x.asks(1, 0, what));
            due("of another reader, what " + what, -1, x.asks(0, 2, what));
            due("of another reader, what " + what, -1, x.asks(2, 0, what));
            due("the same one, what " + what, -1, x.asks(0, 0, what));
            due("no such letter, what " + what, -1, x.asks(3, -1, what));
            due("no such letter, what " + what, -1, x.asks(-1, -1, what));
            due("no such letter, what " + what, -1, x.asks(-1, 0, what));
            due("no such other, what " + what, -1, x.asks(0, 3, what));
            due("no such other, what " + what, -1, x.asks(0, -2, what));
        }
        for (int what : new int[] {-1, 4, Integer.MIN_VALUE, Integer.MAX_VALUE}) {
            due("asks(0, -1, " + what + ")", -1, x.asks(0, -1, what));
            due("asks(0, 1, " + what + ")", -1, x.asks(0, 1, what));
        }
        due("no way leads there", -1, x.way(1));
        due("they are not among those that are refused", 0, x.status());
        TearPost y = EdgesOfPost.withLetters(12);
        due("asks(11, 10, 0) of twelve", 20, y.asks(11, 10, WEEPS));
        due("asks(12, -1, 0) of twelve", -1, y.asks(12, -1, WEEPS));
        due("asks(11, 12, 0) of twelve", -1, y.asks(11, 12, WEEPS));
    }

    private void askedOfLettersThatAreRead() {
        doc.says(19, "READ or not");
        TearPost x = EdgesOfPost.withLetters(3);
        x.hand(0, -1);
        x.hand(1, -1);
        x.tire(0, 0);
        due("one that is read", 10, x.asks(0, -1, WEEPS));
        due("two that are read", 20, x.asks(0, 1, WEEPS));
        due("one that is read with one that is not", 20, x.asks(2, 0, WEEPS));
        due("what it tires by", 5, x.asks(0, -1, TIRES));
    }

    private void rests() {
        doc.says(20, "How a READER RESTS this DAY. NONE.");
        doc.range("rests(reader)", 0, 1, 3, -1, reader -> post().rests(reader));
        doc.range("rests(reader) of eight", 0, 7, 3, -1, reader -> EdgesOfPost.withReaders(8).rests(reader));
        TearPost x = post();
        Checks.rule(x, "rests day*10+reader");
        for (int day = 0; day <= 3; day++) {
            due("rests(0) on day " + day, 10 * day, x.rests(0));
            due("rests(1) on day " + day, 10 * day + 1, x.rests(1));
            x.pass();
        }
    }

    private void sumsAndTheirEdges() {
        doc.says(19, "Beyond 1,000,000,000 either way, or divided by 0 (/ cut towards 0, % what is left then), a SUM, a TEST is"
                + " BROKEN (\"or\", \"and\" ask what stands behind only if it can still matter).");
        String most = "1000*1000*1000";
        weeps("weeps " + most, 999);
        weeps("weeps " + most + "+1", 34);
        weeps("weeps 1+" + most, 34);
        weeps("weeps 0-" + most, 0);
        weeps("weeps 0-" + most + "-1", 34);
        weeps("weeps " + most + "-1+1", 999);
        weeps("weeps " + most + "+1-1", 34);
        weeps("weeps [" + most + "-1]*1", 999);
        weeps("weeps " + most + "*2/2", 34);
        weeps("weeps [0-" + most + "]*2/2", 34);
        weeps("weeps " + most + "*1000*1000*1000*1000*1000", 34);
        weeps("weeps " + most + "*0", 0);
        weeps("weeps " + most + "-" + most, 0);
        weeps("weeps [0-" + most + "]-" + most, 34);
        weeps("weeps [0-" + most + "]/[0-1]", 999);
        weeps("weeps 999*1000*1000+1000*1000", 999);
        weeps("weeps 999*1000*1000+1000*1000+1", 34);
        isSo(most + "=" + most, true);
        isSo(most + ">" + most + "-1", true);
        isSo("0-" + most + "<0", true);
        isSo(most + "+1>0", false);
        isSo("not " + most + "+1>0", false);
        isSo("0<" + most + "+1", false);
        isSo("0-" + most + "-1<0", false);
    }

    private void dividing() {
        doc.says(19, "divided by 0 (/ cut towards 0, % what is left then)");
        weeps("weeps 1/0", 34);
        weeps("weeps 1%0", 34);
        weeps("weeps 0/0", 34);
        weeps("weeps 0%0", 34);
        weeps("weeps 0/1", 0);
        weeps("weeps 1/[tired-6]", 34);
        weeps("weeps 1/[tired-7]+5", 4);
        weeps("weeps 7/2", 3);
        weeps("weeps 10+[0-7]/2", 7);
        weeps("weeps 10+7/[0-2]", 7);
        weeps("weeps 10+[0-7]/[0-2]", 13);
        weeps("weeps 7%2", 1);
        weeps("weeps 10+[0-7]%2", 9);
        weeps("weeps 10+7%[0-2]", 11);
        weeps("weeps 10+[0-7]%[0-2]", 9);
        weeps("weeps 10+[0-1]/2", 10);
        weeps("weeps 20-10-5", 5);
        weeps("weeps 2+3*4-10/5", 12);
        weeps("weeps 100/10/5", 2);
        weeps("weeps 100/7%5*3", 12);
        isSo("1/0=1", false);
        isSo("1=1/0", false);
        isSo("not 1/0=1", false);
        isSo("not 1%0=1", false);
        isSo("not not 1/0=1", false);
    }

    private void orAndAnd() {
        doc.says(19, "(\"or\", \"and\" ask what stands behind only if it can still matter)");
        String[] tests = {"1=1", "1=2", "1/0=1"};
        for (int a = 0; a < 3; a++) {
            isSo(tests[a], a == 0);
            isSo("not " + tests[a], a == 1);
            for (int b = 0; b < 3; b++) {
                isSo(tests[a] + " or " + tests[b], a == 0 || a == 1 && b == 0);
                isSo(tests[a] + " and " + tests[b], a == 0 && b == 0);
                isSo("not (" + tests[a] + " or " + tests[b] + ")", a == 1 && b == 1);
                isSo("not (" + tests[a] + " and " + tests[b] + ")", a == 1 || a == 0 && b == 1);
                isSo("not " + tests[a] + " or " + tests[b], a == 1 || a == 0 && b == 0);
                isSo("not " + tests[a] + " and " + tests[b], a == 1 && b == 0);
                isSo("not (not " + tests[a] + ") and not " + tests[b], a == 0 && b == 1);
                isSo("not (not (not " + tests[a] + ")) or not " + tests[b], a == 1 || a == 0 && b == 1);
                for (int c = 0; c < 3; c++) {
                    // 0: so, 1: not, 2: broken
                    int both = a == 0 ? b : a;
                    isSo(tests[a] + " and " + tests[b] + " or " + tests[c], both == 0 || both == 1 && c == 0);
                    int behind = b == 0 ? c : b;
                    isSo(tests[a] + " or " + tests[b] + " and " + tests[c], a == 0 || a == 1 && behind == 0);
                    int one = a == 1 ? b : a;
                    isSo("(" + tests[a] + " or " + tests[b] + ") and " + tests[c], one == 0 && c == 0);
                }
            }
        }
    }

    private void comparing() {
        doc.says(19, "PLAIN: \"not\" PLAIN | \"(\" TEST \")\" | SUM (\"<\" | \">\" | \"=\") SUM.");
        for (int a = -1; a <= 1; a++) {
            String sum = "5+" + (a + 1) + "-1";
            isSo(sum + "<5", a < 0);
            isSo(sum + "=5", a == 0);
            isSo(sum + ">5", a > 0);
            isSo("not " + sum + "<5", a >= 0);
            isSo("not not " + sum + "<5", a < 0);
        }
    }

    private void whatIsAskedOf() {
        doc.says(19, "Words: \"reader\" | \"soft\" | \"tired\" | \"had\" | \"grief\" | \"joke\" | \"weight\" | \"with\" | \"day\""
                + " | \"mood\".");
        String[] words = {"reader", "soft", "tired", "had", "grief", "joke", "weight", "with", "day", "mood"};
        int[] want = {1, 4, 6, 2, 10, 7, 3, 1, 77, 8};
        int[] least = {0, 0, 0, 0, 0, 0, 1, 1, 0, 0};
        int[] most = {7, 9, 999, 12, 30, 30, 9, 1, 999, 9};
        for (int k = 0; k < words.length; k++) {
            TearPost x = post();
            x.road(0, 5);
            x.letter(0, 0, 1, 1, 0);
            x.letter(0, 0, 1, 1, 0);
            x.hand(3, 4);
            x.terms(0, 77);
            x.terms(2, 8);
            Checks.rule(x, "weeps " + words[k]);
            due("what '" + words[k] + "' is", want[k], x.asks(0, -1, WEEPS));
            TearPost y = new TearPost();
            y.reader(0, 0);
            y.letter(0, 0, 1, 0, 0);
            Checks.rule(y, "weeps " + words[k]);
            due("the least that '" + words[k] + "' is", least[k], y.asks(0, -1, WEEPS));
            due("the most that '" + words[k] + "' is", most[k], ofTheMost("weeps " + words[k]));
        }
    }

    /** What reader 7 weeps at the last of twelve letters, where all is as high as it can be. */
    private static int ofTheMost(String law) {
        TearPost x = new TearPost();
        for (int r = 0; r < 8; r++) {
            x.reader(9, 0);
        }
        for (int k = 0; k < 12; k++) {
            x.letter(30, 30, 9, 7, 1);
            x.hand(k, -1);
        }
        x.tire(7, 999);
        x.terms(0, 999);
        x.terms(2, 9);
        Checks.rule(x, law);
        return x.asks(11, -1, WEEPS);
    }

    private void whatIsAskedOfTwo() {
        doc.says(19, "\"rests\" is asked of a READER (grief, joke, weight, with -1), the others of what is handed to a READER (of two"
                + " at once: all GRIEFS, JOKES, WEIGHTS together; with: how many).");
        TearPost x = post();
        Checks.rule(x, "weeps grief*10+with;laughs if joke=16 and with=2;tires weight*2+with;bars if weight=11 and with=2");
        due("weeps", 152, x.asks(0, 1, WEEPS));
        due("laughs", 1, x.asks(0, 1, LAUGHS));
        due("tires", 24, x.asks(0, 1, TIRES));
        due("barred", 1, x.asks(0, 1, BARS));
        due("weeps at one", 101, x.asks(0, -1, WEEPS));
        due("laughs at one", 0, x.asks(0, -1, LAUGHS));
        due("tires by one", 7, x.asks(0, -1, TIRES));
        due("barred alone", 0, x.asks(0, -1, BARS));
        String[] words = {"grief", "joke", "weight", "with"};
        for (String word : words) {
            TearPost y = post();
            Checks.rule(y, "rests 50+" + word);
            y.asks(0, 1, TIRES);
            due("rests by 50 and " + word, 49, y.rests(1));
        }
        String[] others = {"reader", "soft", "tired", "had", "day", "mood"};
        int[] want = {1, 4, 6, 0, 9, 3};
        for (int k = 0; k < others.length; k++) {
            TearPost y = post();
            y.terms(0, 9);
            y.terms(2, 3);
            Checks.rule(y, "rests " + others[k]);
            due("rests by " + others[k], want[k], y.rests(1));
        }
    }

    private void whatIsAskedOfAnyTwo() {
        doc.says(19, "(of two at once: all GRIEFS, JOKES, WEIGHTS together; with: how many)");
        TearPost x = EdgesOfPost.withReaders(2);
        int[] griefs = {1, 2, 4, 8, 16, 30};
        int[] jokes = {30, 16, 8, 4, 2, 1};
        int[] weights = {9, 8, 6, 4, 2, 1};
        for (int k = 0; k < 6; k++) {
            x.letter(griefs[k], jokes[k], weights[k], 1, k % 2);
        }
        Checks.rule(x, "weeps grief*15+joke;tires weight*with;laughs if joke=40");
        for (int a = 0; a < 6; a++) {
            for (int b = -1; b < 6; b++) {
                if (a != b) {
                    boolean alone = b < 0;
                    int grief = griefs[a] + (alone ? 0 : griefs[b]);
                    int joke = jokes[a] + (alone ? 0 : jokes[b]);
                    int weight = weights[a] + (alone ? 0 : weights[b]);
                    String of = "asks(" + a + ", " + b + ", ";
                    due(of + "0)", Math.min(999, grief * 15 + joke), x.asks(a, b, WEEPS));
                    due(of + "2)", weight * (alone ? 1 : 2), x.asks(a, b, TIRES));
                }
            }
        }
    }

    private void laughing() {
        doc.says(19, "One LAUGHS, if \"laughs\" HOLDS, or, if the LAW in FORCE (if any) has no CLAUSE of \"laughs\", if JOKE is above"
                + " GRIEF.");
        for (int joke = 0; joke <= 30; joke++) {
            TearPost x = EdgesOfPost.withReaders(1);
            x.letter(15, joke, 1, 0, 0);
            due("laughs by joke " + joke + " of grief 15", joke > 15 ? 1 : 0, x.asks(0, -1, LAUGHS));
            Checks.rule(x, "weeps 5;bars;tires 3;rests 3");
            due("with a law of other clauses", joke > 15 ? 1 : 0, x.asks(0, -1, LAUGHS));
            Checks.rule(x, "laughs if joke=3;laughs if 1/0=1;laughs if joke=20;weeps 1");
            due("with laws of it", joke == 3 || joke == 20 ? 1 : 0, x.asks(0, -1, LAUGHS));
            x.force(-1);
            due("without a law again", joke > 15 ? 1 : 0, x.asks(0, -1, LAUGHS));
        }
        TearPost y = post();
        Checks.rule(y, "laughs if 1/0=1");
        due("broken: it has a clause of laughs all the same", 0, y.asks(1, -1, LAUGHS));
        Checks.rule(y, "laughs");
        due("always", 1, y.asks(2, -1, LAUGHS));
    }

    private void holding() {
        doc.says(19, "A CLAUSE HOLDS, if its \"if\" (if it has one) is so, and neither that nor its SUM is BROKEN.");
        weeps("weeps 7", 7);
        weeps("weeps 7 if 1=1", 7);
        weeps("weeps 7 if 1=2", 34);
        weeps("weeps 7 if 1/0=1", 34);
        weeps("weeps 7 if not 1/0=1", 34);
        weeps("weeps 1/0", 34);
        weeps("weeps 1/0 if 1=1", 34);
        weeps("weeps 1/0 if 1=2", 34);
        weeps("weeps 7;weeps 1/0", 7);
        weeps("weeps 7;weeps 8 if 1/0=1", 7);
        weeps("weeps 1/0;weeps 7", 7);
    }

    private void weeping() {
        doc.says(19, "One WEEPS what the last \"weeps\" that HOLDS tells, 0 .. 999 (else the nearest), without as GRIEF times SOFT less"
                + " TIRED (0 at least); reading TIRES by what \"tires\" tells, 0 .. 99, half of GRIEF (cut) without; a DAY RESTS one"
                + " by what \"rests\" tells, 0 .. 99, 3 without; handing is BARRED, if \"bars\" HOLDS.");
        weeps("weeps 998", 998);
        weeps("weeps 999", 999);
        weeps("weeps 1000", 999);
        weeps("weeps 1000*1000*1000", 999);
        weeps("weeps 1", 1);
        weeps("weeps 0", 0);
        weeps("weeps 0-1", 0);
        weeps("weeps 0-1000*1000*1000", 0);
        weeps("weeps 1;weeps 2;weeps 3", 3);
        weeps("weeps 1;weeps 2 if 1=1;weeps 3 if 1=2", 2);
        weeps("weeps 1;tires 2;rests 3;laughs;bars", 1);
        weeps("tires 2;rests 3;laughs;bars", 34);
        weeps(Checks.times(11, "weeps 5 if 1=2", ";") + ";weeps 6", 6);
        weeps("weeps 6;" + Checks.times(11, "weeps 5 if 1=2", ";"), 6);
    }

    private void weepingWithout() {
        doc.says(19, "without as GRIEF times SOFT less TIRED (0 at least)");
        int[][] rows = {{30, 9, 0, 270}, {30, 9, 269, 1}, {30, 9, 270, 0}, {30, 9, 271, 0}, {30, 9, 999, 0}, {0, 9, 0, 0},
            {30, 0, 0, 0}, {1, 1, 0, 1}, {1, 1, 1, 0}, {0, 0, 999, 0}};
        for (int[] row : rows) {
            TearPost x = new TearPost();
            x.reader(row[1], 0);
            x.letter(row[0], 0, 1, 0, 0);
            x.letter(row[0], 0, 1, 0, 0);
            x.tire(0, row[2]);
            String what = "grief " + row[0] + ", soft " + row[1] + ", tired " + row[2];
            due("what one weeps by " + what, row[3], x.asks(0, -1, WEEPS));
            due("of two alike", Math.max(0, 2 * row[0] * row[1] - row[2]), x.asks(0, 1, WEEPS));
        }
    }

    private void tiring() {
        doc.says(19, "reading TIRES by what \"tires\" tells, 0 .. 99, half of GRIEF (cut) without");
        String[] sums = {"98", "99", "100", "1000*1000*1000", "1", "0", "0-1", "0-1000*1000*1000", "1/0"};
        int[] want = {98, 99, 99, 99, 1, 0, 0, 0, 5};
        for (int k = 0; k < sums.length; k++) {
            TearPost x = post();
            Checks.rule(x, "tires " + sums[k]);
            due("tires by " + sums[k], want[k], x.asks(0, -1, TIRES));
        }
        for (int grief = 0; grief <= 30; grief++) {
            TearPost x = EdgesOfPost.withReaders(1);
            x.letter(grief, 0, 1, 0, 0);
            x.letter(30, 0, 1, 0, 0);
            due("tires by grief " + grief, grief / 2, x.asks(0, -1, TIRES));
            due("tires by grief " + grief + " and 30", grief / 2 + 15, x.asks(0, 1, TIRES));
        }
        TearPost y = post();
        Checks.rule(y, "tires 4;tires 5 if 1=1;tires 6 if 1=2");
        due("the last that holds", 5, y.asks(0, -1, TIRES));
    }

    private void resting() {
        doc.says(20, "a DAY RESTS one by what \"rests\" tells, 0 .. 99, 3 without");
        String[] sums = {"98", "99", "100", "1000*1000*1000", "1", "0", "0-1", "0-1000*1000*1000", "1/0"};
        int[] want = {98, 99, 99, 99, 1, 0, 0, 0, 3};
        for (int k = 0; k < sums.length; k++) {
            TearPost x = post();
            x.tire(1, 500);
            Checks.rule(x, "rests " + sums[k]);
            due("rests by " + sums[k], want[k], x.rests(1));
            x.pass();
            due("tired behind a day", 500 - want[k], x.of(1, 2));
        }
        TearPost y = post();
        Checks.rule(y, "rests 4;rests 5 if 1=1;rests 6 if 1=2");
        due("the last that holds", 5, y.rests(0));
        Checks.rule(y, "weeps 9;tires 9;bars;laughs");
        due("without", 3, y.rests(0));
    }

    private void barring() {
        doc.says(21, "handing is BARRED, if \"bars\" HOLDS.");
        String[] laws = {"weeps 1", "bars", "bars if 1=2", "bars if 1/0=1", "bars if 1=1;bars if 1=2", "bars if 1=2;bars if 1=1"};
        int[] want = {0, 1, 0, 0, 1, 1};
        for (int k = 0; k < laws.length; k++) {
            TearPost x = post();
            Checks.rule(x, laws[k]);
            due("barred by " + laws[k], want[k], x.asks(2, -1, BARS));
            due("hand(2, -1) by " + laws[k], want[k] == 1 ? -3 : laws[k].startsWith("weeps") ? 1 : 6, x.hand(2, -1));
        }
    }
}
