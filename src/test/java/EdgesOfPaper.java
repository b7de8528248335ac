import java.util.ArrayList;
import java.util.List;

/** Promises 25 to 29, sentence by sentence: what is done on paper with letters. */
final class EdgesOfPaper {
    private static final int NOTHING = -1000000;

    private final Sentences doc;

    EdgesOfPaper(Sentences doc) {
        this.doc = doc;
    }

    private void due(String call, long want, long got) {
        doc.due(call, want, got);
    }

    void all() {
        nothingStands();
        ordersOfFewAndMany();
        ordersOfNoOne();
        theFirstOrder();
        aDayGoesBy();
        tiredByAllOrNothing();
        behindTheLastDay();
        ordersThatCannotBe();
        ordersLivedThrough();
        gamesOfFewAndMany();
        gamesOfNoOne();
        byTurns();
        theOtherGoesOn();
        theLowestOfAlikeOnes();
        alikeButForOneTear();
        noDayGoesBy();
        gamesLivedThrough();
        ledgers();
        whoJokedOfFewAndMany();
        allLedgersAreSo();
        whatLawsTellIsAside();
        whatLawsAskOfJokes();
        whoIsHeldNow();
        jokesLivedThrough();
        inside();
        insideAsItLaughs();
        insideLivedThrough();
        insideOfWhatIsNone();
    }

    private static final String[] LAWS = {
        "weeps grief*soft-tired",
        "weeps 100-tired*3+weight;tires weight*7%11;rests had%4+day%3",
        "weeps grief+joke*10-tired;tires 9 if joke>5;tires 2+weight;rests tired/3",
        "weeps [tired*7+grief*13+weight*29+had*5]%97;tires [tired*3+weight*11]%23;rests [tired+day]%7",
        "weeps 60-tired*weight%50;laughs if [had+weight]%3=0;bars if weight=2 and had=3;tires 4+weight",
        "weeps 5+had*weight;bars if had=4 and weight<3;bars if had=3 and tired%2=0;tires weight;rests reader",
        "bars if had=5;weeps 9",
        "weeps with*100+joke*3+reader*40-tired;tires with*5+weight;bars if with=2"};

    /** Reader 2 of three has had letters, and holds letters 2, 3, 5, 6; the others are for others, or read. */
    private static TearPost someLetters(int senders) {
        TearPost x = EdgesOfPost.withReaders(3);
        int[] readers = {2, 1, 2, 2, 0, 2, 2, 2, 2};
        int[] griefs = {4, 20, 12, 9, 30, 15, 7, 1, 1};
        int[] jokes = {0, 3, 8, 2, 1, 16, 5, 0, 0};
        int[] weights = {9, 5, 2, 4, 6, 1, 3, 7, 8};
        for (int k = 0; k < 9; k++) {
            x.letter(griefs[k], jokes[k], weights[k], readers[k], senders >> k & 1);
        }
        x.hand(0, -1);
        x.hand(7, 8);
        x.tire(0, 77);
        x.tire(2, 6);
        return x;
    }

    private static List<Integer> heldByReaderTwo() {
        return new ArrayList<>(List.of(2, 3, 5, 6));
    }

    private static List<Integer> without(List<Integer> letters, int letter) {
        List<Integer> others = new ArrayList<>(letters);
        others.remove((Integer) letter);
        return others;
    }

    /** What is paid, then the letters in their order, by living all orders and undoing them; null if none can be. */
    private static List<Integer> livedOrder(TearPost x, List<Integer> rest) {
        if (rest.isEmpty()) {
            return new ArrayList<>(List.of(0));
        }
        List<Integer> best = null;
        for (int letter : rest) {
            int paid = x.hand(letter, -1);
            if (paid < 0) {
                continue;
            }
            x.pass();
            List<Integer> behind = livedOrder(x, without(rest, letter));
            x.undo();
            x.undo();
            if (behind != null && (best == null || paid + behind.get(0) > best.get(0))) {
                best = behind;
                best.set(0, paid + behind.get(0));
                best.add(1, letter);
            }
        }
        return best;
    }

    private void ordersLivedThrough() {
        doc.says(25, "one a DAY from now on (a DAY goes by behind each");
        for (String law : LAWS) {
            for (int tired : new int[] {0, 1, 6, 40, 985}) {
                TearPost x = someLetters(0);
                x.tire(2, tired);
                x.terms(0, 31);
                Checks.rule(x, law);
                int pays = x.order(2, -1);
                int[] letters = {x.order(2, 0), x.order(2, 1), x.order(2, 2), x.order(2, 3), x.order(2, 4)};
                List<Integer> lived = livedOrder(x, heldByReaderTwo());
                String by = " by '" + law + "', tired " + tired;
                due("order(2, -1)" + by, lived == null ? -1 : lived.get(0), pays);
                for (int i = 0; i <= 4; i++) {
                    due("order(2, " + i + ")" + by, lived == null || i == 4 ? -1 : lived.get(i + 1), letters[i]);
                }
            }
        }
    }

    /** How much more sender 0 is paid, and the letter handed first, by living all games and undoing them. */
    private static int[] livedGame(TearPost x, List<Integer> rest, int senders, int turn) {
        int[] best = null;
        for (int other = 0; other <= 1 && best == null; other++) {
            int who = other == 0 ? turn : 1 - turn;
            for (int letter : rest) {
                int paid = (senders >> letter & 1) == who ? x.hand(letter, -1) : -1;
                if (paid >= 0) {
                    int value = livedGame(x, without(rest, letter), senders, 1 - who)[0] + (who == 0 ? paid : -paid);
                    x.undo();
                    if (best == null || (who == 0 ? value > best[0] : value < best[0])) {
                        best = new int[] {value, letter};
                    }
                }
            }
        }
        return best == null ? new int[] {0, -1} : best;
    }

    private void gamesLivedThrough() {
        doc.says(26, "by turns (SENDER 0 begins) each has one of its own handed (none that can be: the other one goes on), no DAY goes"
                + " by: each wants its own to be PAID as much more than the other's as can be; of alike ones the lowest.");
        for (String law : LAWS) {
            for (int senders : new int[] {0, 511, 4, 8, 32 + 64, 8 + 64, 4 + 8, 511 - 64}) {
                for (int tired : new int[] {0, 1, 7, 990}) {
                    TearPost x = someLetters(senders);
                    x.tire(2, tired);
                    x.terms(0, 31);
                    Checks.rule(x, law);
                    int[] lived = livedGame(x, heldByReaderTwo(), senders, 0);
                    String by = " by '" + law + "', tired " + tired + ", of sender 1: " + senders;
                    due("game(2, 0)" + by, lived[0], x.game(2, 0));
                    due("game(2, 1)" + by, lived[1], x.game(2, 1));
                }
            }
        }
    }

    private void whatLawsAskOfJokes() {
        doc.says(28, "READERS laugh at those that are jokes, and at no others (what LAWS tell of it aside, BARS, too)");
        TearPost x = EdgesOfPost.withReaders(2);
        int[] jokes = {3, 0, 25, 12, 30};
        for (int k = 0; k < 5; k++) {
            x.letter(2, jokes[k], 1 + k, 1, 0);
        }
        Checks.rule(x, "weeps 100*joke%97+weight+with*200;tires joke");
        int all = 0;
        for (int k = 0; k < 5; k++) {
            int weeps = 100 * jokes[k] % 97 + 1 + k + 200;
            all += weeps;
            x.ledger(1, weeps);
            due("the only one that is no joke has a joke of " + jokes[k], 31 ^ 1 << k, x.joked(0));
        }
        x.ledger(1, all);
        due("none of them is one", 1, x.joked(-1));
        due("none of them is one", 0, x.joked(0));
    }

    private void whoIsHeldNow() {
        doc.says(28, "WHO JOKED: LETTERS that are HELD");
        TearPost x = EdgesOfPost.withReaders(8);
        for (int r = 0; r < 8; r++) {
            x.letter(10, 0, 1, r, 0);
            x.ledger(r, 10 * (r + 1));
        }
        due("none of eight joked", 1, x.joked(-1));
        due("the empty set", 0, x.joked(0));
        x.hand(7, -1);
        due("none of seven joked, one had paid", 1, x.joked(-1));
        due("the empty set", 0, x.joked(0));
        x.ledger(6, 0);
        due("reader 6 laughs", 64, x.joked(0));
        x.ledger(7, 0);
        due("what one had paid can't be a joke any more", 0, x.joked(-1));
        x.undo();
        due("undone, it can", 1, x.joked(-1));
        due("readers 6 and 7 laugh", 64 + 128, x.joked(0));
    }

    /** All sets, each lived through on a post of its own, where just the jokes are above their griefs. */
    private void jokesLivedThrough() {
        doc.says(28, "handed one by one by numbers, no DAY goes by, READERS laugh at those that are jokes, and at no others");
        String[] laws = {"weeps grief*soft-tired", "weeps [grief*5+tired*3+had*7+weight+with]%23;tires weight*3%5;bars if day=9",
            "weeps weight%3*20+reader+had;tires 90+weight", "weeps day+mood+soft;tires 1"};
        int[] griefs = {9, 4, 12, 7, 9, 3};
        int[] readers = {1, 0, 1, 2, 1, 0};
        for (String law : laws) {
            int[][] paid = new int[64][];
            for (int set = 0; set < 64; set++) {
                TearPost x = sixLetters(griefs, readers, set, law);
                for (int k = 0; k < 6; k++) {
                    x.hand(k, -1);
                }
                paid[set] = new int[] {x.of(0, 5), x.of(1, 5), x.of(2, 5)};
            }
            for (int told : new int[] {0, 5, 21, 42, 63}) {
                for (int silent = -1; silent <= 2; silent++) {
                    TearPost x = sixLetters(griefs, readers, 64, law);
                    for (int r = 0; r <= 2; r++) {
                        x.ledger(r, r == silent ? -1 : paid[told][r]);
                    }
                    List<Integer> want = new ArrayList<>();
                    for (int set = 0; set < 64; set++) {
                        boolean so = true;
                        for (int r = 0; r <= 2; r++) {
                            so &= r == silent || paid[set][r] == paid[told][r];
                        }
                        if (so) {
                            want.add(set);
                        }
                    }
                    String by = " by '" + law + "', told of set " + told + ", silent " + silent;
                    due("joked(-1)" + by, want.size(), x.joked(-1));
                    for (int i = 0; i <= want.size(); i++) {
                        due("joked(" + i + ")" + by, i < want.size() ? want.get(i) : -1, x.joked(i));
                    }
                }
            }
        }
    }

    private static TearPost sixLetters(int[] griefs, int[] readers, int jokes, String law) {
        TearPost x = EdgesOfPost.withReaders(3);
        x.tire(1, 4);
        x.terms(0, 2);
        x.terms(2, 3);
        for (int k = 0; k < 6; k++) {
            x.letter(griefs[k], (jokes >> k & 1) == 1 ? 30 : 0, 1 + k, readers[k], 0);
        }
        Checks.rule(x, law);
        return x;
    }

    private void insideLivedThrough() {
        doc.says(29, "GRIEFS by which just so much would be paid for it now (as it LAUGHS, WEEPS).");
        for (String law : new String[] {"weeps grief*soft-tired", "weeps grief%7*weight+joke+had;laughs if grief%5=joke%5",
            "weeps 1000/grief", "weeps grief*40+tired+day"}) {
            int[] paid = new int[31];
            for (int grief = 0; grief <= 30; grief++) {
                TearPost x = griefOf(grief, law);
                paid[grief] = x.hand(4, -1);
            }
            TearPost x = griefOf(17, law);
            for (int told = 0; told <= 30; told += 6) {
                List<Integer> want = new ArrayList<>();
                for (int grief = 0; grief <= 30; grief++) {
                    if (paid[grief] == paid[told]) {
                        want.add(grief);
                    }
                }
                String by = " by '" + law + "'";
                due("inside(4, " + paid[told] + ", -1)" + by, want.size(), x.inside(4, paid[told], -1));
                for (int i = 0; i <= want.size(); i++) {
                    due("inside(4, " + paid[told] + ", " + i + ")" + by, i < want.size() ? want.get(i) : -1,
                            x.inside(4, paid[told], i));
                }
            }
        }
    }

    /** Letter 4 is for reader 1, who is tired and had two. */
    private static TearPost griefOf(int grief, String law) {
        TearPost x = EdgesOfPost.withReaders(2);
        for (int k = 0; k < 6; k++) {
            x.letter(k == 4 ? grief : 3, k == 4 ? 8 : k, k == 4 ? 5 : 1, 1, 0);
        }
        x.hand(1, 2);
        x.tire(1, 9);
        x.terms(0, 12);
        Checks.rule(x, law);
        return x;
    }

    private void nothingStands() {
        doc.says(25, "(On paper, ROADS aside; BARRED ones can't be.)");
        TearPost x = new TearPost();
        x.reader(2, 6);
        x.letter(10, 0, 1, 0, 0);
        x.letter(6, 0, 1, 0, 1);
        due("hand(): no road leads there", -3, x.hand(0, -1));
        due("the best order", 6 * 2 + 10 * 2, x.order(0, -1));
        due("a game", 20 - 7, x.game(0, 0));
        x.ledger(0, 20 + 7);
        due("who joked", 1, x.joked(-1));
        due("inside a letter", 1, x.inside(0, 20, -1));
        due("the day", 0, x.count(14));
        due("the office", 0, x.count(13));
        due("held", 2, x.count(3));
        for (int what = 2; what <= 5; what++) {
            due("of(0, " + what + ")", 0, x.of(0, what));
        }
        due("count(5)", 0, x.count(5));
        due("they are not among those that are refused", 0, x.count(7) + x.count(8));
        Checks.rule(x, "bars if grief=10");
        due("an order with a barred one", -1, x.order(0, -1));
        due("a game without the barred one", -12, x.game(0, 0));
        due("its first letter", 1, x.game(0, 1));
        Checks.rule(x, "bars");
        due("a game of barred ones", 0, x.game(0, 0));
        due("who joked: bars are aside", 1, x.joked(-1));
    }

    private void ordersOfFewAndMany() {
        doc.says(25, "The BEST ORDER: what is paid (i NONE), the i-th LETTER. NONE (it can't be, above 8 LETTERS).");
        for (int many = 0; many <= 12; many++) {
            TearPost x = EdgesOfPost.withReaders(2);
            x.letter(1, 0, 1, 1, 0);
            for (int k = 1; k < many; k++) {
                x.letter(1, 0, 1, 0, 0);
            }
            Checks.rule(x, "weeps 7;tires 0");
            int held = Math.max(0, many - 1);
            due("order() of " + held, held <= 8 ? 7 * held : -1, x.order(0, -1));
            for (int i = 0; i <= 12; i++) {
                due("order(0, " + i + ") of " + held, held <= 8 && i < held ? i + 1 : -1, x.order(0, i));
            }
            due("order() of the other reader's one", 7, x.order(1, -1));
        }
        doc.says(25, "all HELD for that one (8 at most)");
        TearPost y = EdgesOfPost.withLetters(12);
        Checks.rule(y, "weeps 7;tires 0");
        for (int read = 0; read <= 12; read++) {
            due("order() of 12 less " + read, read < 4 ? -1 : 7 * (12 - read), y.order(0, -1));
            due("its first letter", read < 4 || read == 12 ? -1 : read, y.order(0, 0));
            y.hand(read, -1);
        }
    }

    private void ordersOfNoOne() {
        doc.says(25, "the i-th LETTER. NONE (it can't be, above 8 LETTERS).");
        TearPost x = EdgesOfPost.withLetters(3);
        for (int reader : new int[] {-1, 1, 8, Integer.MIN_VALUE, Integer.MAX_VALUE}) {
            due("order(" + reader + ", -1)", -1, x.order(reader, -1));
            due("order(" + reader + ", 0)", -1, x.order(reader, 0));
        }
        for (int i : new int[] {-2, 3, 4, 8, Integer.MIN_VALUE, Integer.MAX_VALUE}) {
            due("order(0, " + i + ")", -1, x.order(0, i));
        }
        due("order(7, 0) of eight", -1, EdgesOfPost.withReaders(8).order(7, 0));
        due("order(7, -1) of eight", 0, EdgesOfPost.withReaders(8).order(7, -1));
        due("order(8, -1) of eight", -1, EdgesOfPost.withReaders(8).order(8, -1));
    }

    private void orderIs(TearPost x, int paid, int... letters) {
        due("what the best order pays", paid, x.order(0, -1));
        for (int i = 0; i < letters.length; i++) {
            due("its letter " + i, letters[i], x.order(0, i));
        }
        due("behind its last", -1, x.order(0, letters.length));
    }

    private void theFirstOrder() {
        doc.says(25, "by which most is paid; the first (LETTERS by numbers).");
        TearPost x = EdgesOfPost.withReaders(1);
        for (int k = 0; k < 4; k++) {
            x.letter(k, 0, 1 + k, 0, 0);
        }
        Checks.rule(x, "weeps 5");
        orderIs(x, 20, 0, 1, 2, 3);
        Checks.rule(x, "weeps 5;weeps 6 if weight=3 and had=0");
        orderIs(x, 21, 2, 0, 1, 3);
        Checks.rule(x, "weeps 5;weeps 6 if weight=3 and had=1;weeps 6 if weight=4 and had=1");
        orderIs(x, 21, 0, 2, 1, 3);
        Checks.rule(x, "weeps 5;weeps 6 if weight=1 and had=3");
        orderIs(x, 21, 1, 2, 3, 0);
        // a letter that pays less at first, and one that pays more for it later
        TearPost y = EdgesOfPost.withReaders(1);
        for (int k = 0; k < 4; k++) {
            y.letter(k, 0, 1 + k, 0, 0);
        }
        Checks.rule(y, "weeps 5;weeps 4 if weight=4 and had=0;weeps 7 if weight=1 and had=1 and tired=0;"
                + "tires 3;tires 0 if weight=4;rests 0");
        orderIs(y, 21, 3, 0, 1, 2);
    }

    private void aDayGoesBy() {
        doc.says(25, "The BEST ORDER for a READER: all HELD for that one (8 at most), one a DAY from now on (a DAY goes by behind each;"
                + " behind 999 DAY stays): by which most is paid; the first (LETTERS by numbers).");
        TearPost x = EdgesOfPost.withReaders(1);
        x.letter(0, 0, 1, 0, 0);
        x.letter(0, 0, 2, 0, 0);
        x.letter(0, 0, 3, 0, 0);
        x.terms(0, 100);
        Checks.rule(x, "weeps 1;weeps 100 if weight=3 and day=100;weeps 100 if weight=1 and day=101;weeps 100 if weight=2 and day=102");
        orderIs(x, 300, 2, 0, 1);
        Checks.rule(x, "weeps had*10 if weight=1;weeps day-100 if weight=2;weeps 0 if weight=3");
        orderIs(x, 21, 2, 1, 0);
        Checks.rule(x, "weeps 100-tired;tires 10;rests 4");
        orderIs(x, 100 + 94 + 88, 0, 1, 2);
        // what a day's rest is asked of: tired and had behind the letter, the day that ends, nothing handed
        Checks.rule(x, "weeps 100-tired;tires 50;rests 0;rests had*2+day-100 if tired>49 and grief+joke+weight+with=0-4");
        orderIs(x, 100 + 52 + 7, 0, 1, 2);
        x.tire(0, 999);
        Checks.rule(x, "weeps tired-990;tires 50;rests 4");
        orderIs(x, 9 + 5 + 5, 0, 1, 2);
    }

    /**
     * By letter 0 at first one comes to rest, by any other one to be tired ever more: behind letters 0 to 5 one may be tired
     * by 0, behind 1 to 5 by nearly 999. These are no alike stands, though all letters but one are.
     */
    private void tiredByAllOrNothing() {
        doc.says(25, "by which most is paid; the first (LETTERS by numbers).");
        for (int start = 310; start <= 700; start++) {
            TearPost x = EdgesOfPost.withReaders(1);
            for (int k = 0; k < 8; k++) {
                x.letter(0, 0, k == 0 ? 1 : 2, 0, 0);
            }
            x.tire(0, start);
            Checks.rule(x, "weeps tired;tires 99;tires 0 if weight=1 or tired<" + start + ";rests 0;rests 99 if tired<"
                    + (start + 1));
            int paid = 0;
            // from 999 on letter 0 tires no less than any other
            int ahead = 0;
            int[] letters = new int[8];
            for (int k = 0; k < 8; k++) {
                int tired = Math.min(999, start + 99 * k);
                paid += tired;
                ahead += tired < 999 ? 1 : 0;
                letters[k] = tired < 999 ? k + 1 : k == ahead ? 0 : k;
            }
            orderIs(x, paid, letters);
        }
    }

    private void behindTheLastDay() {
        doc.says(25, "behind 999 DAY stays");
        for (int day = 996; day <= 999; day++) {
            TearPost x = EdgesOfPost.withLetters(4);
            x.terms(0, day);
            Checks.rule(x, "weeps day-990;tires 9;rests 9");
            int due = 0;
            for (int k = 0; k < 4; k++) {
                due += Math.min(999, day + k) - 990;
            }
            due("order() from day " + day, due, x.order(0, -1));
            Checks.rule(x, "weeps 100-tired;tires 9;rests 4");
            due("one rests behind 999, too: order() from day " + day, 400 - 5 - 10 - 15, x.order(0, -1));
            due("the day", day, x.count(14));
        }
    }

    private void ordersThatCannotBe() {
        doc.says(25, "BARRED ones can't be.");
        TearPost x = EdgesOfPost.withReaders(1);
        for (int k = 0; k < 3; k++) {
            x.letter(k, 0, 1 + k, 0, 0);
        }
        Checks.rule(x, "weeps 9;bars if weight=1 and had=0;bars if weight=2 and had<2");
        orderIs(x, 27, 2, 0, 1);
        Checks.rule(x, "weeps 9;bars if weight=1");
        due("order() with one that is always barred", -1, x.order(0, -1));
        due("its first letter", -1, x.order(0, 0));
        Checks.rule(x, "weeps 9;bars if had=2");
        due("order() of which none can be the last", -1, x.order(0, -1));
        x.hand(0, -1);
        due("order() of two, barred behind the first", -1, x.order(0, -1));
        TearPost y = EdgesOfPost.withReaders(1);
        Checks.rule(y, "bars");
        due("order() of no letters, by a law that bars all", 0, y.order(0, -1));
    }

    private void gamesOfFewAndMany() {
        doc.says(26, "A GAME: how much more SENDER 0 is PAID (what 0), the LETTER handed first (1; NONE: none). NOTHING (no READER,"
                + " above 8 LETTERS).");
        for (int many = 0; many <= 12; many++) {
            TearPost x = EdgesOfPost.withReaders(1);
            for (int k = 0; k < many; k++) {
                x.letter(5, 0, 1, 0, k % 2);
            }
            Checks.rule(x, "weeps 7;tires 0");
            due("game(0, 0) of " + many, many <= 8 ? many % 2 * 7 : NOTHING, x.game(0, 0));
            due("game(0, 1) of " + many, many > 8 ? NOTHING : many > 0 ? 0 : -1, x.game(0, 1));
        }
        doc.says(26, "over a READER's HELD letters (8 at most)");
        TearPost y = EdgesOfPost.withLetters(12);
        Checks.rule(y, "weeps 7;tires 0");
        for (int read = 0; read <= 12; read++) {
            due("game(0, 0) of 12 less " + read, read < 4 ? NOTHING : 7 * (12 - read), y.game(0, 0));
            due("game(0, 1) of 12 less " + read, read < 4 ? NOTHING : read < 12 ? read : -1, y.game(0, 1));
            y.hand(read, -1);
        }
    }

    private void gamesOfNoOne() {
        doc.says(26, "NOTHING (no READER, above 8 LETTERS).");
        TearPost x = EdgesOfPost.withLetters(2);
        for (int what : new int[] {-1, 2, Integer.MIN_VALUE, Integer.MAX_VALUE}) {
            due("game(0, " + what + ")", NOTHING, x.game(0, what));
        }
        for (int reader : new int[] {-1, 1, 8, Integer.MIN_VALUE, Integer.MAX_VALUE}) {
            due("game(" + reader + ", 0)", NOTHING, x.game(reader, 0));
            due("game(" + reader + ", 1)", NOTHING, x.game(reader, 1));
        }
        due("game(7, 0) of eight", 0, EdgesOfPost.withReaders(8).game(7, 0));
        due("game(7, 1) of eight", -1, EdgesOfPost.withReaders(8).game(7, 1));
        due("game(8, 1) of eight", NOTHING, EdgesOfPost.withReaders(8).game(8, 1));
        due("the constant", NOTHING, TearPost.NOTHING);
        due("the other constant", -1, TearPost.NONE);
        TearPost low = EdgesOfPost.withReaders(1);
        for (int k = 0; k < 8; k++) {
            low.letter(1, 0, 1, 0, 1);
        }
        Checks.rule(low, "weeps 999;tires 0");
        due("the lowest that a game can be", -8 * 999, low.game(0, 0));
    }

    private void byTurns() {
        doc.says(26, "A GAME of two SENDERS over a READER's HELD letters (8 at most): by turns (SENDER 0 begins) each has one of its own"
                + " handed (none that can be: the other one goes on), no DAY goes by: each wants its own to be PAID as much more than"
                + " the other's as can be; of alike ones the lowest.");
        TearPost x = EdgesOfPost.withReaders(1);
        x.letter(0, 0, 1, 0, 1);
        x.letter(0, 0, 2, 0, 0);
        x.letter(0, 0, 3, 0, 1);
        x.letter(0, 0, 4, 0, 0);
        // what is paid tells the turn: the sender who begins is paid 1, the next one 10, then 100, then 500
        Checks.rule(x, "weeps 1;weeps 10 if had=1;weeps 100 if had=2;weeps 500 if had=3");
        due("sender 0 is the first and the third", 1 - 10 + 100 - 500, x.game(0, 0));
        due("its lowest is the first", 1, x.game(0, 1));
        // sender 0 is paid more by letter 3 at first, yet leaves less to the other by letter 1
        Checks.rule(x, "weeps 10;weeps 12 if weight=4 and had=0;weeps 5 if weight=3 and tired=7;tires 0;tires 7 if weight=2");
        due("as much more than the other's as can be", 10 - 10 + 10 - 5, x.game(0, 0));
        due("its first letter", 1, x.game(0, 1));
    }

    private void theOtherGoesOn() {
        doc.says(26, "none that can be: the other one goes on");
        TearPost x = EdgesOfPost.withReaders(1);
        for (int k = 0; k < 3; k++) {
            x.letter(0, 0, 1 + k, 0, 1);
        }
        Checks.rule(x, "weeps 7");
        due("sender 1 alone", -21, x.game(0, 0));
        due("its lowest is the first", 0, x.game(0, 1));
        x.letter(0, 0, 4, 0, 0);
        Checks.rule(x, "weeps 10*[had+1];tires 0");
        due("sender 0 once, then 1 alone", 10 - 20 - 30 - 40, x.game(0, 0));
        due("sender 0 begins", 3, x.game(0, 1));
        Checks.rule(x, "weeps 10*[had+1];tires 0;bars if weight=4 and had=0");
        due("sender 0 can't at first", -10 + 20 - 30 - 40, x.game(0, 0));
        due("sender 1 goes on", 0, x.game(0, 1));
        Checks.rule(x, "weeps 10*[had+1];tires 0;bars if weight<4 and had=1");
        due("sender 1 can't behind the first, nor can 0: it ends", 10, x.game(0, 0));
        Checks.rule(x, "bars");
        due("none can be", 0, x.game(0, 0));
        due("none is the first", -1, x.game(0, 1));
    }

    private void theLowestOfAlikeOnes() {
        doc.says(26, "of alike ones the lowest");
        for (int sender = 0; sender <= 1; sender++) {
            TearPost x = EdgesOfPost.withReaders(1);
            x.letter(3, 0, 1, 0, 1 - sender);
            x.hand(0, -1);
            for (int k = 0; k < 3; k++) {
                x.letter(3, 0, 1 + k, 0, sender);
            }
            Checks.rule(x, "weeps 7;tires 0");
            due("the lowest of sender " + sender, 1, x.game(0, 1));
            Checks.rule(x, "weeps 7;tires 0;weeps 8 if weight=2 and had=1");
            due("the best of sender " + sender, 2, x.game(0, 1));
            Checks.rule(x, "weeps 7;tires 0;weeps 8 if weight>1 and had=1");
            due("the lowest of its best", 2, x.game(0, 1));
        }
    }

    private void alikeButForOneTear() {
        doc.says(26, "each wants its own to be PAID as much more than the other's as can be");
        TearPost x = EdgesOfPost.withReaders(1);
        for (int k = 0; k < 3; k++) {
            x.letter(0, 0, 1 + k, 0, 0);
        }
        // letters 0, 1 leave one tired by 10, letters 1, 0 by 11: only then the last one pays
        Checks.rule(x, "weeps 1;weeps 100 if weight=3 and had=2 and tired=11;tires 0;tires 9+weight if had=0 and weight<3");
        due("the same letters read, tired by one more", 102, x.game(0, 0));
        due("its first letter", 1, x.game(0, 1));
        TearPost y = EdgesOfPost.withReaders(1);
        for (int k = 0; k < 4; k++) {
            y.letter(0, 0, 1 + k, 0, k == 2 ? 1 : 0);
        }
        // letters 0, 2, 1: it is sender 1's turn; letters 1, 0, 2, tired by one more: it is sender 0's
        Checks.rule(y, "weeps 1;weeps 100 if weight=4 and had=3 and tired=11;tires 0;tires 9+weight if had=0 and weight<3;"
                + "bars if weight=3 and had=1 and tired=11");
        due("the same letters read, another turn", 1 + 1 - 1 + 100, y.game(0, 0));
        due("its first letter", 1, y.game(0, 1));
    }

    private void noDayGoesBy() {
        doc.says(26, "no DAY goes by");
        TearPost x = EdgesOfPost.withReaders(1);
        x.letter(10, 0, 1, 0, 0);
        x.letter(10, 0, 1, 0, 1);
        due("one is tired by 5 still", 5, x.game(0, 0));
        x.terms(0, 7);
        Checks.rule(x, "weeps day;tires 9");
        due("the day stays", 0, x.game(0, 0));
        Checks.rule(x, "weeps 999-tired;tires 99;rests 99");
        x.tire(0, 990);
        due("tired 999 at most: 9 and 0", 9, x.game(0, 0));
    }

    private void ledgers() {
        doc.says(27, "A LEDGER (NONE: none): what it was. -1; -2.");
        for (int value : new int[] {-1, 0, 99999, -2, 100000, Integer.MIN_VALUE, Integer.MAX_VALUE}) {
            TearPost x = EdgesOfPost.withReaders(1);
            boolean can = value >= -1 && value <= 99999;
            due("ledger(0, " + value + ")", -1, x.ledger(0, value));
            due("status()", can ? 0 : -1, x.status());
            due("of(0, 6)", can ? value : -1, x.of(0, 6));
            due("ledger(1, " + value + ")", can ? -2 : -1, x.ledger(1, value));
            due("ledger(-1, " + value + ")", can ? -2 : -1, x.ledger(-1, value));
        }
        doc.says(27, "LEDGERS, told of READERS: what one will have paid, 0 .. 99,999, or NONE (at first).");
        TearPost y = EdgesOfPost.withReaders(8);
        due("ledger(8, 0) of eight", -2, y.ledger(8, 0));
        for (int r = 0; r < 8; r++) {
            due("of(" + r + ", 6) at first", -1, y.of(r, 6));
            due("ledger(" + r + ", 5)", -1, y.ledger(r, 5 + r));
        }
        due("ledger(7, 99999)", 12, y.ledger(7, 99999));
        due("ledger(7, 100000)", -1, y.ledger(7, 100000));
        due("ledger(7, -1)", 99999, y.ledger(7, -1));
        due("of(7, 6)", -1, y.of(7, 6));
        due("of(6, 6)", 11, y.of(6, 6));
    }

    private void whoJokedOfFewAndMany() {
        doc.says(28, "WHO JOKED: sets (i NONE: how many), the i-th as bits. NONE.");
        for (int many = 0; many <= 12; many++) {
            TearPost x = EdgesOfPost.withLetters(many);
            int all = 1 << many;
            due("joked(-1) of " + many, all, x.joked(-1));
            due("joked(0) of " + many, 0, x.joked(0));
            due("the last of " + many, all - 1, x.joked(all - 1));
            due("behind the last of " + many, -1, x.joked(all));
        }
        TearPost y = EdgesOfPost.withLetters(3);
        for (int i : new int[] {-2, 8, Integer.MIN_VALUE, Integer.MAX_VALUE}) {
            due("joked(" + i + ")", -1, y.joked(i));
        }
        y.hand(1, -1);
        int[] sets = {0, 1, 4, 5};
        due("joked(-1), one of three read", 4, y.joked(-1));
        for (int i = 0; i < 4; i++) {
            due("joked(" + i + ")", sets[i], y.joked(i));
        }
        due("joked(4)", -1, y.joked(4));
        y.ledger(0, 99999);
        due("no set", 0, y.joked(-1));
        due("no set", -1, y.joked(0));
        TearPost z = EdgesOfPost.withLetters(12);
        Checks.rule(z, "weeps 1");
        z.ledger(0, 0);
        due("all of twelve", 1, z.joked(-1));
        due("all of twelve", 4095, z.joked(0));
        z.ledger(0, 12);
        due("none of twelve", 0, z.joked(0));
        z.ledger(0, 13);
        due("more than all", 0, z.joked(-1));
    }

    private void allLedgersAreSo() {
        doc.says(28, "sets by which all LEDGERS (what one had PAID, too) are so.");
        TearPost x = EdgesOfPost.withReaders(2);
        x.letter(10, 0, 1, 0, 0);
        x.letter(10, 0, 1, 1, 0);
        x.letter(7, 0, 1, 0, 0);
        x.letter(9, 0, 1, 1, 0);
        Checks.rule(x, "weeps grief");
        x.hand(3, -1);
        due("without ledgers", 8, x.joked(-1));
        x.ledger(1, 9);
        due("reader 1 had paid 9, and laughs at letter 1", 4, x.joked(-1));
        due("the first of them", 2, x.joked(0));
        due("the last of them", 7, x.joked(3));
        x.ledger(1, 19);
        due("reader 1 pays 10 more", 0, x.joked(0));
        x.ledger(0, 7);
        due("reader 0 laughs at letter 0", 1, x.joked(-1));
        due("reader 0 laughs at letter 0", 1, x.joked(0));
        x.ledger(0, 0);
        due("reader 0 laughs at both", 5, x.joked(0));
        x.ledger(0, 17);
        due("reader 0 laughs at none", 0, x.joked(0));
        x.ledger(1, 10);
        due("what one had paid is not forgotten", 0, x.joked(-1));
        x.ledger(1, -1);
        due("a ledger of NONE tells nothing", 2, x.joked(-1));
    }

    private void whatLawsTellIsAside() {
        doc.says(28, "WHO JOKED: LETTERS that are HELD, handed one by one by numbers, no DAY goes by, READERS laugh at those that are"
                + " jokes, and at no others (what LAWS tell of it aside, BARS, too): sets by which all LEDGERS (what one had PAID,"
                + " too) are so.");
        TearPost x = EdgesOfPost.withReaders(1);
        x.letter(10, 30, 1, 0, 0);
        x.letter(10, 30, 1, 0, 0);
        x.ledger(0, 15);
        due("jokes above griefs are none, if they are not in the set", 0, x.joked(0));
        Checks.rule(x, "laughs;bars");
        due("laughs and bars of the law are aside", 0, x.joked(0));
        Checks.rule(x, "laughs if 1=2");
        x.ledger(0, 5);
        due("one reads on, as tired by a joke as by others", 1, x.joked(0));
        x.ledger(0, 10);
        due("the second is the joke", 2, x.joked(0));
        Checks.rule(x, "weeps 10-had*3+day;tires 0;rests 99");
        x.ledger(0, 17);
        due("had goes up, no day goes by", 0, x.joked(0));
        x.ledger(0, 7);
        due("had goes up by a joke, too", 1, x.joked(0));
        due("one set", 1, x.joked(-1));
    }

    private void inside() {
        doc.says(29, "INSIDE a LETTER for which so much would be paid now: how many GRIEFS (i NONE), the i-th. NONE.");
        TearPost x = EdgesOfPost.withReaders(1);
        x.letter(3, 0, 1, 0, 0);
        for (int grief = 0; grief <= 30; grief++) {
            due("how many for " + grief, 1, x.inside(0, grief, -1));
            due("the one for " + grief, grief, x.inside(0, grief, 0));
            due("no second one for " + grief, -1, x.inside(0, grief, 1));
        }
        for (int paid : new int[] {-1, 31, 999, 1000, Integer.MIN_VALUE, Integer.MAX_VALUE}) {
            due("how many for " + paid, 0, x.inside(0, paid, -1));
            due("the one for " + paid, -1, x.inside(0, paid, 0));
        }
        Checks.rule(x, "weeps 999");
        due("all of 0 to 30", 31, x.inside(0, 999, -1));
        for (int i = -4; i <= 40; i++) {
            due("inside(0, 999, " + i + ")", i == -1 ? 31 : i >= 0 && i <= 30 ? i : -1, x.inside(0, 999, i));
        }
        due("inside(0, 999, LEAST)", -1, x.inside(0, 999, Integer.MIN_VALUE));
        due("inside(0, 999, MOST)", -1, x.inside(0, 999, Integer.MAX_VALUE));
    }

    private void insideAsItLaughs() {
        doc.says(29, "INSIDE a LETTER: GRIEFS by which just so much would be paid for it now (as it LAUGHS, WEEPS).");
        TearPost x = EdgesOfPost.withReaders(1);
        x.letter(30, 20, 1, 0, 0);
        due("laughed at below 20", 20, x.inside(0, 0, -1));
        due("the last of them", 19, x.inside(0, 0, 19));
        due("20 is no laugh", 20, x.inside(0, 20, 0));
        due("19 is one", 0, x.inside(0, 19, -1));
        x.tire(0, 25);
        due("tired by 25, now", 26, x.inside(0, 0, -1));
        due("30 pays 5", 30, x.inside(0, 5, 0));
        Checks.rule(x, "weeps grief/10;laughs if grief=25;bars;tires 99");
        due("by the law's sums, bars aside", 9, x.inside(0, 2, -1));
        due("without the one that is laughed at", 26, x.inside(0, 2, 5));
        due("nothing: 0 to 9, and 25", 11, x.inside(0, 0, -1));
        due("the last of them", 25, x.inside(0, 0, 10));
        Checks.rule(x, "weeps joke+weight*100+with*200+soft*300");
        due("its own joke and weight, alone", 11, x.inside(0, 620, -1));
        due("the letter is as it was", 30, x.at(0, 0));
        TearPost y = EdgesOfPost.withLetters(1);
        y.hand(0, -1);
        due("one that is read: 10 would pay 5 now", 10, y.inside(0, 5, 0));
    }

    private void insideOfWhatIsNone() {
        doc.says(29, "how many GRIEFS (i NONE), the i-th. NONE.");
        for (int many : new int[] {0, 1, 12}) {
            TearPost x = EdgesOfPost.withLetters(many);
            for (int letter : new int[] {-1, many, Integer.MIN_VALUE, Integer.MAX_VALUE}) {
                due("inside(" + letter + ", 0, -1) of " + many, -1, x.inside(letter, 0, -1));
                due("inside(" + letter + ", 0, 0) of " + many, -1, x.inside(letter, 0, 0));
            }
            if (many > 0) {
                due("inside the last of " + many, 1, x.inside(many - 1, 10, -1));
            }
        }
    }
}
