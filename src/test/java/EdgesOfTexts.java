/** Promises 14 and 16, sentence by sentence: texts of both languages, and where they can't go on. */
final class EdgesOfTexts {
    private static final int NONE = -1;

    private final Sentences doc;

    EdgesOfTexts(Sentences doc) {
        this.doc = doc;
    }

    private void due(String call, long want, long got) {
        doc.due(call, want, got);
    }

    void all() {
        tokens();
        blanks();
        twelveClauses();
        thirteenClauses();
        testsAndSums();
        numbers();
        fiftyParts();
        noPartBehindFifty();
        whatIsNoPart();
        eightBrackets();
        brackets();
        theFirstFault();
        eachLetterOfAWord();
        textsAreApart();
        theEnd();
        lawClauses();
        lawWords();
        orderClauses();
        theTimes();
        orderWords();
        aReadersNumber();
        sixLaws();
        noRoomForALaw();
        lawsThatCannotBe();
        ordersThatCannotBeRead();
        faultOfTheLatest();
    }

    /** A LAW on a new post: fault() behind it, which is as due, as are law(), the tape, and how many laws there are. */
    private void law(String text, int fault) {
        TearPost x = new TearPost();
        due("law() of '" + text + "'", fault == NONE ? 0 : -6, Checks.law(x, text));
        due("fault() of '" + text + "'", fault, x.fault());
        due("count(4) behind '" + text + "'", fault == NONE ? 1 : 0, x.count(4));
        due("count(6) behind '" + text + "'", 0, x.count(6));
    }

    /** ORDERS on a post without letters: whether they can be read, and fault() behind them. */
    private void orders(String text, int fault) {
        TearPost x = new TearPost();
        due("orders() of '" + text + "' is -6", fault == NONE ? 0 : 1, Checks.orders(x, text) == -6 ? 1 : 0);
        due("fault() of '" + text + "'", fault, x.fault());
        due("count(6) behind '" + text + "'", 0, x.count(6));
    }

    private void tokens() {
        doc.says(14, "TOKENS: longest rows of letters a .. z, of digits, single other bytes, any blanks (32) between.");
        law("weeps 1if 1=1or 2=2", NONE);
        law("weeps9", NONE);
        law("weeps0", NONE);
        law("weeps 1and", 7);
        law("weepsgrief", 0);
        law("weep s 1", 0);
        law("weeps 1 0", 8);
        law("weeps 10", NONE);
        law("weeps a", 6);
        law("weeps z", 6);
        law("alaughs", 0);
        law("laughsz", 0);
        law("laughs a", 7);
        law("laughs z", 7);
        law("laughs 0", 7);
        law("laughs 9", 7);
        // the bytes next to letters and to digits are neither: the row of letters ends ahead of them
        for (int b : new int[] {0, 31, 33, 47, 58, 64, 65, 90, 96, 123, 127, 128, 225, 255}) {
            law("laughs" + (char) b, 6);
            law((char) b + "laughs", 0);
            law("weeps 1" + (char) b, b == 47 ? 8 : 7);
        }
        law("Laughs", 0);
        law("laughs if 1<>2", 12);
        law("laughs if 1=2;;", 14);
    }

    private void blanks() {
        doc.says(14, "any blanks (32) between.");
        law(" laughs", NONE);
        law("laughs ", NONE);
        law("   weeps   [   1   +   2   ]   if   (   1   <   2   )   ;   bars   ", NONE);
        law("weeps[1+2]if(1<2);bars", NONE);
        law("weeps grief*2if not(joke=1)and tired<3", NONE);
        for (int b : new int[] {9, 10, 13, 160}) {
            law("weeps" + (char) b + "1", 5);
        }
        orders("passtimes 2", 0);
        orders("pass times2if 1=2", NONE);
    }

    private void twelveClauses() {
        doc.says(14, "Of both languages: CLAUSE {\";\" CLAUSE}, 12 at most (FAULT at the 13th's first TOKEN).");
        for (int many = 1; many <= 12; many++) {
            law(Checks.times(many, "bars", ";"), NONE);
            orders(Checks.times(many, "pass", ";"), NONE);
        }
        law(";", 0);
        law("bars;", 5);
        law("bars;;bars", 5);
        law(";bars", 0);
        law("bars bars", 5);
        orders("pass;", 5);
        orders("pass;;pass", 5);
        orders("pass pass", 5);
    }

    private void thirteenClauses() {
        doc.says(14, "12 at most (FAULT at the 13th's first TOKEN)");
        law(Checks.times(13, "bars", ";"), 60);
        law(Checks.times(12, "bars", ";") + ";  bars", 62);
        law(Checks.times(12, "bars", ";") + ";x", 60);
        law(Checks.times(12, "bars", ";") + ";", 60);
        law(Checks.times(12, "bars", ";") + ";  ", 62);
        law(Checks.times(12, "bars", ";") + " bars", 60);
        law(Checks.times(14, "bars", ";"), 60);
        orders(Checks.times(13, "pass", ";"), 60);
        orders(Checks.times(12, "pass", ";") + ";", 60);
        orders(Checks.times(12, "pass", " if 1=2;") + "  ; hand", 12 * 4 + 11 * 8 + 4);
    }

    private void testsAndSums() {
        doc.says(14, "TEST: BOTH {\"or\" BOTH}. BOTH: PLAIN {\"and\" PLAIN}.");
        law("bars if 1=1 or 1=1 and 1=1 or 1=1", NONE);
        law("bars if 1=1 or", 14);
        law("bars if 1=1 and", 15);
        law("bars if or 1=1", 8);
        law("bars if 1=1 and or 1=1", 16);
        law("bars if 1=1 1=1", 12);
        doc.says(14, "PLAIN: \"not\" PLAIN | \"(\" TEST \")\" | SUM (\"<\" | \">\" | \"=\") SUM.");
        law("bars if not 1=1", NONE);
        law("bars if " + Checks.times(97, "not", " ") + "1=1", NONE);
        law("bars if " + Checks.times(97, "not", " ") + " 1=", 398);
        law("bars if not", 11);
        law("bars if 1", 9);
        law("bars if 1=", 10);
        law("bars if =1", 8);
        law("bars if 1=1=1", 11);
        law("bars if 1<=1", 10);
        law("bars if (1)=1", 10);
        law("bars if ()", 9);
        law("bars if (1=1", 12);
        law("bars if 1=1)", 11);
        law("bars if (1=1]", 12);
        law("bars if (1=1)=1", 13);
        doc.says(14, "SUM: TERM {(\"+\" | \"-\") TERM}. TERM: PART {(\"*\" | \"/\" | \"%\") PART}.");
        law("weeps 1+2-3*4/5%6", NONE);
        law("weeps +1", 6);
        law("weeps -1", 6);
        law("weeps 1+", 8);
        law("weeps 1*", 8);
        law("weeps 1+*2", 8);
        law("weeps 1**2", 8);
        law("weeps 1--2", 8);
    }

    private void numbers() {
        doc.says(14, "PART: NUMBER (to 1,000) | \"[\" SUM \"]\" | a word, as told.");
        law("weeps 0", NONE);
        law("weeps 999", NONE);
        law("weeps 1000", NONE);
        law("weeps 1001", 6);
        law("weeps 2000", 6);
        law("weeps 9999", 6);
        law("weeps 10000", 6);
        law("weeps 4294967296", 6);
        law("weeps 18446744073709551616", 6);
        law("weeps 0000000000000000000000001000", NONE);
        law("weeps 0000000000000000000000001001", 6);
        law("bars if 1=1 or 2<1001", 17);
        orders("hand 1000 if 1=2", NONE);
        orders("hand 1001 if 1=2", 5);
        law("weeps []", 7);
        law("weeps [1", 8);
        law("weeps [1)", 8);
        law("weeps (1)", 6);
        law("weeps 1]", 7);
        law("weeps [1]]", 9);
        law("weeps [1=1]", 8);
    }

    private void fiftyParts() {
        doc.says(14, "50 PARTS that are NUMBERS and words (FAULT at the 51st),");
        law("weeps " + Checks.times(49, "1", "+"), NONE);
        law("weeps " + Checks.times(50, "1", "+"), NONE);
        law("weeps " + Checks.times(51, "1", "+"), 6 + 2 * 50);
        law("weeps " + Checks.times(52, "1", "+"), 6 + 2 * 50);
        law("weeps " + Checks.times(50, "had", "+"), NONE);
        law("weeps " + Checks.times(51, "had", "+"), 6 + 4 * 50);
        law("weeps " + Checks.times(25, "had*2", "+"), NONE);
        law("weeps " + Checks.times(25, "had*2", "+") + "+  had", 6 + 6 * 25 + 2);
        // they are counted through all the text: through clauses, tests and sums
        law("weeps " + Checks.times(24, "1", "+") + ";tires " + Checks.times(24, "1", "+") + " if 1=1", NONE);
        law("weeps " + Checks.times(24, "1", "+") + ";tires " + Checks.times(25, "1", "+") + " if 1=1",
                6 + 47 + 1 + 6 + 49 + 4 + 2);
        law(Checks.times(10, "weeps 1 if 1=1 and 1=1", ";"), NONE);
        law(Checks.times(11, "weeps 1 if 1=1 and 1=1", ";"), 10 * 23 + 6);
        orders("hand " + Checks.times(50, "day", "+") + " times 2", NONE);
        orders("hand " + Checks.times(51, "day", "+"), 5 + 4 * 50);
        orders("hand 1 with " + Checks.times(50, "1", "+"), 12 + 2 * 49);
        orders("hand 1 with " + Checks.times(49, "1", "+"), NONE);
    }

    /** Where a 51st PART should stand and something else does, it is that which can't go on. */
    private void noPartBehindFifty() {
        doc.says(14, "50 PARTS that are NUMBERS and words (FAULT at the 51st),");
        String sum = Checks.times(50, "1", "+");
        int end = 6 + sum.length();
        for (String behind : new String[] {"", ";bars", "if 1=1", ")", "]", "<1", "times 2", "with 1"}) {
            law("weeps " + sum + "+" + behind, end + 1);
            law("weeps " + sum + "*  " + behind, end + 3);
            law("weeps " + sum + ";tires " + behind, end + 7);
            law("weeps " + sum + ";bars if " + behind, end + 9);
            law("weeps " + sum + ";bars if not " + behind, end + 13);
            law("weeps " + sum + ";bars if (" + behind, end + 10);
            orders("hand " + sum + "-" + behind, end);
            orders("hand " + sum + " with " + behind, end + 5);
            orders("hand " + sum + ";hand " + behind, end + 5);
        }
        law("weeps " + Checks.times(49, "1", "+") + "+[1+]", end + 2);
        law("weeps " + Checks.times(48, "1", "+") + " if (1=1 and )", 6 + 95 + 13);
        // what is no PART may stand behind the fiftieth
        law("weeps " + sum + ";bars;laughs", NONE);
        orders("hand " + sum + " times 2;pass", NONE);
    }

    private void whatIsNoPart() {
        doc.says(14, "R, TIMES aside, NUMBERS and words count as PARTS.");
        orders("hand " + Checks.times(50, "tired1", "+") + " times 20", NONE);
        orders("hand " + Checks.times(50, "owed7", "+") + " times 20", NONE);
        orders("hand " + Checks.times(51, "owed7", "+"), 5 + 6 * 50);
        orders(Checks.times(11, "pass times 1", ";") + ";hand " + Checks.times(50, "1", "+"), NONE);
        orders(Checks.times(11, "pass times 1", ";") + ";hand " + Checks.times(51, "1", "+"), 11 * 13 + 5 + 100);
        law("weeps " + Checks.times(6, "[", "") + Checks.times(50, "1", "+") + Checks.times(6, "]", "")
                + ";bars;laughs;bars", NONE);
    }

    private void eightBrackets() {
        doc.says(14, "8 brackets of both kinds within one another (FAULT at the 9th) at most.");
        for (int squares = 0; squares <= 9; squares++) {
            String open = Checks.times(squares, "[", "");
            String close = Checks.times(squares, "]", "");
            law("weeps " + open + "1" + close, squares <= 8 ? NONE : 6 + 8);
            law("bars if " + Checks.times(squares, "(", "") + "1=1" + Checks.times(squares, ")", ""),
                    squares <= 8 ? NONE : 8 + 8);
            for (int rounds = 0; rounds <= 9; rounds++) {
                law("bars if " + Checks.times(rounds, "(", "") + "2=" + open + "1" + close
                        + Checks.times(rounds, ")", ""),
                        rounds > 8 ? 8 + 8 : rounds + squares > 8 ? 8 + rounds + 2 + 8 - rounds : NONE);
            }
        }
        law("weeps [[[[[[[[1]]]]]]]]+[[[[[[[[1]]]]]]]]*[1]", NONE);
        law("weeps [[[[[[[[1]]]]]]]]+[[[[[[[[[1", 24 + 8);
        law("weeps [[[[[[[[1+[", 16);
        law("weeps [[[[[[[1+[1]+[1]*[1+[", 26);
        law("bars if ((((((((1=1)))))))) or ((((((((1=1))))))))", NONE);
        law("bars if not(not(not(not(not(not(not(not(1=1))))))))", NONE);
        law("bars if not(not(not(not(not(not(not(not(not(1=1)))))))))", 8 + 8 * 4 + 3);
        orders("hand [[[[[[[[1]]]]]]]] with [[[[[[[[1]]]]]]]] if ((((((((1=2))))))))", NONE);
        orders("hand [[[[[[[[[1", 5 + 8);
        orders("pass if (((((((([1", 8 + 8);
    }

    private void brackets() {
        doc.says(14, "8 brackets of both kinds within one another (FAULT at the 9th) at most.");
        // the ninth is the FAULT, whatever stands in it, and ahead of what else can't go on behind it
        law("weeps [[[[[[[[[", 14);
        law("weeps [[[[[[[[", 14);
        law("weeps [[[[[[[[)", 14);
        law("bars if (((((((((", 16);
        law("bars if ((((((((not (", 20);
        law("bars if ((((((((", 16);
        law("bars if (((((([[1]=1))))))", 18);
    }

    private void theFirstFault() {
        doc.says(16, "FAULT: the first TOKEN that can't go on there (the end's: the TEXT's length).");
        law("x", 0);
        law("  x", 2);
        law("weeps x", 6);
        law("weeps   x  ", 8);
        law("weeps 1 x; y", 8);
        law("weeps 1001 x", 6);
        law("laughs;bars;x;y", 12);
        law("laughs  !  ", 8);
        orders("pass;hand 1;x", 12);
        orders("hand 1 1", 7);
    }

    /** Each text has a word at its start or behind "hand", "weeps 1" ..: with another letter in it, it is none. */
    private void eachLetterOfAWord() {
        doc.says(16, "FAULT: the first TOKEN that can't go on there (the end's: the TEXT's length).");
        String[][] laws = {{"", "weeps", " 1"}, {"", "tires", " 1"}, {"", "rests", " 1"}, {"", "laughs", ""}, {"", "bars", ""},
            {"bars ", "if", " 1=1"}, {"bars if ", "not", " 1=1"}, {"bars if 1=1 ", "or", " 1=1"}, {"bars if 1=1 ", "and", " 1=1"},
            {"weeps ", "reader", ""}, {"weeps ", "soft", ""}, {"weeps ", "tired", ""}, {"weeps ", "had", ""},
            {"weeps ", "grief", ""}, {"weeps ", "joke", ""}, {"weeps ", "weight", ""}, {"weeps ", "with", ""},
            {"weeps ", "day", ""}, {"weeps ", "mood", ""}};
        String[][] orders = {{"", "hand", " 1"}, {"", "pass", ""}, {"hand 1 ", "with", " 2"}, {"pass ", "times", " 2"},
            {"pass ", "if", " 1=2"}, {"hand ", "day", ""}, {"hand ", "letters", ""}, {"hand ", "office", ""}, {"hand ", "done", ""},
            {"hand ", "paid", ""}, {"hand ", "tired", " 1"}, {"hand ", "owed", " 1"}};
        for (String[] text : laws) {
            law(text[0] + text[1] + text[2], NONE);
            for (int k = 0; k < text[1].length(); k++) {
                law(text[0] + changed(text[1], k) + text[2], text[0].length());
            }
        }
        for (String[] text : orders) {
            orders(text[0] + text[1] + text[2], NONE);
            for (int k = 0; k < text[1].length(); k++) {
                orders(text[0] + changed(text[1], k) + text[2], text[0].length());
            }
        }
    }

    private static String changed(String word, int place) {
        return word.substring(0, place) + "q" + word.substring(place + 1);
    }

    /** What a text was has no part in what the next one is, however many there were. */
    private void textsAreApart() {
        doc.says(15, "ORDERS, the TAPE is empty then: how many were run.");
        TearPost x = new TearPost();
        String longOne = "pass if " + Checks.times(24, "1+1", "-") + "<5";
        for (int n = 1; n <= 18; n++) {
            due("orders() " + n, n % 3 == 0 ? -6 : 1, Checks.orders(x, longOne + (n % 3 == 0 ? ";" : "")));
        }
        due("a law behind them", 0, Checks.law(x, "rests 7 if 1=1 and not 1=2"));
        x.force(0);
        x.reader(0, 0);
        due("what it tells", 7, x.rests(0));
    }

    private void theEnd() {
        doc.says(16, "(the end's: the TEXT's length)");
        for (String blanks : new String[] {"", " ", "     "}) {
            int more = blanks.length();
            law(blanks, more);
            law("weeps" + blanks, 5 + more);
            law("bars;" + blanks, 5 + more);
            law("bars if" + blanks, 7 + more);
            law("bars if (1=1" + blanks, 12 + more);
            law("weeps [1" + blanks, 8 + more);
            orders(blanks, more);
            orders("hand" + blanks, 4 + more);
            orders("hand 1 with" + blanks, 11 + more);
            orders("pass times" + blanks, 10 + more);
            orders("hand tired" + blanks, 10 + more);
            orders("pass;" + blanks, 5 + more);
        }
        law(Checks.times(400, " ", ""), 400);
    }

    private void lawClauses() {
        doc.says(14, "CLAUSE: ((\"weeps\" | \"tires\" | \"rests\") SUM | \"laughs\" | \"bars\") [\"if\" TEST].");
        for (String kind : new String[] {"weeps", "tires", "rests"}) {
            law(kind + " 1", NONE);
            law(kind + " 1 if 1=1", NONE);
            law(kind, 5);
            law(kind + " if 1=1", 6);
            law(kind + " 1 if", 10);
            law(kind + " 1 times 2", 8);
            law(kind + " 1 1=1", 8);
        }
        for (String kind : new String[] {"laughs", "bars"}) {
            law(kind, NONE);
            law(kind + " if 1=1", NONE);
            law(kind + " 1", kind.length() + 1);
            law(kind + " if", kind.length() + 3);
            law(kind + " if 1=1 if 1=1", kind.length() + 8);
        }
        for (String other : new String[] {"hand 1", "pass", "if 1=1", "with", "grief", "weep 1", "weepss 1", "1", "bar"}) {
            law(other, 0);
        }
    }

    private void lawWords() {
        doc.says(14, "Words: \"reader\" | \"soft\" | \"tired\" | \"had\" | \"grief\" | \"joke\" | \"weight\" | \"with\" |"
                + " \"day\" | \"mood\".");
        String[] words = {"reader", "soft", "tired", "had", "grief", "joke", "weight", "with", "day", "mood"};
        for (String word : words) {
            law("weeps " + word, NONE);
            law("bars if " + word + "=" + word, NONE);
            law("weeps " + word + "x", 6);
            law("weeps " + word.substring(1), 6);
            law("weeps " + word + " 1", 7 + word.length());
        }
        for (String other : new String[] {"letters", "office", "done", "paid", "owed", "owed 1", "if", "not", "weeps", "ink"}) {
            law("weeps " + other, 6);
        }
    }

    private void orderClauses() {
        doc.says(15, "ORDERS: CLAUSE: (\"hand\" SUM [\"with\" SUM] | \"pass\") [\"times\" TIMES] [\"if\" TEST]. (one LETTER,"
                + " or two; pass: a DAY.)");
        orders("hand 1", NONE);
        orders("hand 1 with 2", NONE);
        orders("hand 1 with 2 times 3 if 1=2", NONE);
        orders("hand 1 times 3", NONE);
        orders("hand 1 if 1=2", NONE);
        orders("pass times 3 if 1=2", NONE);
        orders("hand", 4);
        orders("hand with 2", 5);
        orders("hand 1 with", 11);
        orders("hand 1 with 2 with 3", 14);
        orders("hand 1 if 1=2 with 2", 14);
        orders("hand 1 times 2 with 2", 15);
        orders("hand 1 if 1=2 times 2", 14);
        orders("pass 1", 5);
        orders("pass with 1", 5);
        orders("pass if 1=2 times 2", 12);
        orders("pass times 2 times 2", 13);
        orders("pass if 1=2 if 1=2", 12);
        for (String other : new String[] {"weeps 1", "laughs", "undo", "onward 1", "hands 1", "han 1", "passs", "times 1"}) {
            orders(other, 0);
        }
    }

    private void theTimes() {
        doc.says(15, "TIMES: a NUMBER 1 .. 20.");
        for (int n = 0; n <= 25; n++) {
            orders("pass times " + n, n >= 1 && n <= 20 ? NONE : 11);
            orders("hand 1 times " + n, n >= 1 && n <= 20 ? NONE : 13);
        }
        orders("pass times 020", NONE);
        orders("pass times 021", 11);
        orders("pass times 00", 11);
        orders("pass times 1000", 11);
        orders("pass times 4294967297", 11);
        orders("pass times 1+1", 12);
        orders("pass times [1]", 11);
        orders("pass times day", 11);
        orders("pass times -1", 11);
        orders("pass times if 1=1", 11);
    }

    private void orderWords() {
        doc.says(15, "Words: \"day\" | \"letters\" | \"office\" | \"done\" | \"paid\" | \"tired\" R | \"owed\" R (R: a NUMBER"
                + " 0 .. 7).");
        for (String word : new String[] {"day", "letters", "office", "done", "paid", "tired 1", "owed 1"}) {
            orders("hand " + word, NONE);
            orders("pass if " + word + "<0-9", NONE);
            orders("hand x" + word, 5);
        }
        for (String other : new String[] {"reader", "soft", "had", "grief", "joke", "weight", "with", "mood", "letter"}) {
            orders("hand " + other, 5);
        }
    }

    private void aReadersNumber() {
        doc.says(15, "(R: a NUMBER 0 .. 7)");
        for (String word : new String[] {"tired", "owed"}) {
            int place = 5 + word.length() + 1;
            for (int r = 0; r <= 12; r++) {
                orders("hand " + word + " " + r, r <= 7 ? NONE : place);
            }
            orders("hand " + word + "0007", NONE);
            orders("hand " + word + "0008", place - 1);
            orders("hand " + word, place - 1);
            orders("hand " + word + " day", place);
            orders("hand " + word + " [1]", place);
            orders("hand " + word + "+1", place - 1);
            orders("hand " + word + " 1001", place);
            orders("hand " + word + " 4294967296", place);
            orders("hand " + word + " 1 1", place + 2);
        }
    }

    private void sixLaws() {
        doc.says(14, "LAWS, 6 at most; one is in FORCE (NONE at first: no CLAUSE):");
        TearPost x = EdgesOfPost.withLetters(1);
        for (int k = 0; k < 6; k++) {
            due("count(4) ahead of law " + k, k, x.count(4));
            due("law " + k, k, Checks.law(x, "weeps " + (50 + k)));
            due("count(12): none is in force by itself", -1, x.count(12));
        }
        due("a 7th law", -5, Checks.law(x, "weeps 99"));
        due("count(4)", 6, x.count(4));
        due("without a law in force", 10, x.asks(0, -1, 0));
        for (int k = 0; k < 6; k++) {
            x.force(k);
            due("what law " + k + " tells", 50 + k, x.asks(0, -1, 0));
        }
        due("force(6)", -2, x.force(6));
    }

    private void noRoomForALaw() {
        doc.says(14, "The TAPE, which is empty then, becomes a LAW: its number. -5 (ahead of reading it; the TAPE is empty"
                + " then, too); -6 (blanks alone: FAULT at the end).");
        TearPost x = new TearPost();
        for (int k = 0; k < 6; k++) {
            Checks.law(x, "bars");
            due("count(6) behind law " + k, 0, x.count(6));
        }
        Checks.orders(x, "pass;x");
        for (String text : new String[] {"bars", "x", "", "   ", "bars;"}) {
            due("law() of '" + text + "', no room", -5, Checks.law(x, text));
            due("count(6) behind it", 0, x.count(6));
            due("fault() is as it was: it was not read", 5, x.fault());
            due("status()", -5, x.status());
        }
        due("count(10)", 5, x.count(10));
        due("count(11): of the orders() alone", 1, x.count(11));
        due("orders() need no room", 1, Checks.orders(x, "pass"));
    }

    private void lawsThatCannotBe() {
        doc.says(14, "-6 (blanks alone: FAULT at the end).");
        TearPost x = new TearPost();
        due("law() of an empty tape", -6, x.law());
        due("fault()", 0, x.fault());
        due("law() of blanks", -6, Checks.law(x, "    "));
        due("fault()", 4, x.fault());
        due("law() of what can't go on", -6, Checks.law(x, "bars;weeps"));
        due("fault()", 10, x.fault());
        due("count(6)", 0, x.count(6));
        due("count(4): they are no laws", 0, x.count(4));
        due("count(11)", 3, x.count(11));
        due("the first that can be", 0, Checks.law(x, "bars"));
        due("count(4)", 1, x.count(4));
    }

    private void ordersThatCannotBeRead() {
        doc.says(15, "-6 (as for law()).");
        TearPost x = EdgesOfPost.withLetters(1);
        due("orders() of an empty tape", -6, x.orders());
        due("fault()", 0, x.fault());
        due("orders() of blanks", -6, Checks.orders(x, "   "));
        due("fault()", 3, x.fault());
        due("nothing ahead of the fault is run", -6, Checks.orders(x, "pass;hand 0;x"));
        due("count(14)", 0, x.count(14));
        due("count(3)", 1, x.count(3));
        due("count(5)", 0, x.count(5));
        due("nor is it asked whether it can be", -6, Checks.orders(x, "hand 9;x"));
        due("stopped()", -1, x.stopped());
        due("count(6)", 0, x.count(6));
        due("count(11)", 4, x.count(11));
    }

    private void faultOfTheLatest() {
        doc.says(16, "FAULT of the latest law(), orders() that read a TEXT: its place; NONE without.");
        TearPost x = new TearPost();
        due("fault() ahead of any", -1, x.fault());
        Checks.law(x, "bars;x");
        due("fault() of law()", 5, x.fault());
        Checks.orders(x, "pass;pass;x");
        due("fault() of orders()", 10, x.fault());
        Checks.law(x, "bars");
        due("fault() of a law() that can be", -1, x.fault());
        Checks.orders(x, "x");
        due("fault() at the first byte", 0, x.fault());
        Checks.orders(x, "hand 5");
        due("fault() of orders() that can be read, but not be", -1, x.fault());
        Checks.orders(x, "pass pass");
        x.row();
        x.force(9);
        Checks.tape(x, "x");
        due("fault() behind other calls", 5, x.fault());
        x.row();
        due("fault() behind a row()", 5, x.fault());
        Checks.orders(x, "pass");
        due("fault() of orders() that were run", -1, x.fault());
    }
}
