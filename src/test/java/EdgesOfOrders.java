/** Promises 15 and 17, sentence by sentence: how ORDERS are run, and where they stopped. */
final class EdgesOfOrders {
    private final Sentences doc;

    EdgesOfOrders(Sentences doc) {
        this.doc = doc;
    }

    private void due(String call, long want, long got) {
        doc.due(call, want, got);
    }

    void all() {
        howManyWereRun();
        asOftenAsTimesTell();
        theIf();
        theLetters();
        words();
        wordsOfNoOne();
        sumsThatAreBroken();
        handsThatCannotBe();
        passesThatCannotBe();
        allIsAsItWas();
        stopped();
    }

    /** Reader 0 of soft 3 in town 0, with letters 0 to 3 of grief 10; reader 1, hard, with letter 4 of grief 4. */
    private static TearPost post() {
        TearPost x = new TearPost();
        x.reader(3, 0);
        x.reader(0, 0);
        for (int k = 0; k < 4; k++) {
            x.letter(10, 0, 1 + k, 0, 0);
        }
        x.letter(4, 0, 1, 1, 0);
        return x;
    }

    /** What orders() answer, where they stopped, the DAY and the OFFICE behind them. */
    private void run(String text, int want, int stopped, int day, int office) {
        TearPost x = post();
        due("orders() of '" + text + "'", want, Checks.orders(x, text));
        due("stopped() of '" + text + "'", stopped, x.stopped());
        due("the day behind '" + text + "'", day, x.count(14));
        due("the office behind '" + text + "'", office, x.count(13));
        due("count(5) behind '" + text + "'", want < 0 ? 0 : Math.min(16, want), x.count(5));
        due("status() behind '" + text + "'", Math.min(0, want), x.status());
        due("fault() of '" + text + "'", -1, x.fault());
    }

    private void howManyWereRun() {
        doc.says(15, "ORDERS, the TAPE is empty then: how many were run. -3 one can't be;");
        run("pass if 1=2", 0, -1, 0, 0);
        run("pass", 1, -1, 1, 0);
        run("hand 0 with 1", 1, -1, 0, 60);
        run("hand 4", 1, -1, 0, 0);
        run(Checks.times(12, "pass times 20", ";"), 240, -1, 240, 0);
        run("hand 0;hand 0", -3, 1, 0, 0);
        TearPost x = post();
        Checks.orders(x, "pass");
        due("count(6) behind them", 0, x.count(6));
        Checks.orders(x, "hand 9");
        due("count(6) behind some that can't be", 0, x.count(6));
        due("count(9)", 1, x.count(9));
        due("count(8): what stops them is not counted by itself", 0, x.count(8));
    }

    private void asOftenAsTimesTell() {
        doc.says(15, "Run CLAUSE by CLAUSE, each as often as TIMES tell (once without); each time its \"if\" is asked (not run,"
                + " if it is not so or BROKEN), then its SUMS from the left.");
        run("pass times 1", 1, -1, 1, 0);
        run("pass times 20", 20, -1, 20, 0);
        run("pass times 20;pass", 21, -1, 21, 0);
        run("hand done times 4", 4, -1, 0, 30 + 25 + 20 + 15);
        run("hand done times 5", 5, -1, 0, 90);
        run("hand done times 6", -3, 0, 0, 0);
        run("pass;hand 0;pass;hand 1", 4, -1, 2, 30 + 30 - 2);
    }

    private void theIf() {
        doc.says(15, "each time its \"if\" is asked (not run, if it is not so or BROKEN)");
        run("pass times 20 if day<3", 3, -1, 3, 0);
        run("pass times 20 if done=0", 1, -1, 1, 0);
        run("pass times 4 if day=1;pass;pass times 4 if day=1", 2, -1, 2, 0);
        run("hand 0;hand 0 if 1=2", 1, -1, 0, 30);
        run("hand 0 if 1/0=1;pass", 1, -1, 1, 0);
        run("hand 0 if not 1/0=1;pass", 1, -1, 1, 0);
        run("hand 0 if 1000*1000*1000+1>0;pass", 1, -1, 1, 0);
        run("hand 0 if 1000*1000*1000>0", 1, -1, 0, 30);
        run("pass times 3 if 6/[2-day]=3", 1, -1, 1, 0);
        run("pass times 3 if 6/[2-day]>2", 2, -1, 2, 0);
        run("pass if 1=1 or 1/0=1", 1, -1, 1, 0);
        run("pass if 1/0=1 or 1=1", 0, -1, 0, 0);
        run("hand 99 if 1=2;hand 1/0 if 1=2;hand 0 with 0 if 1=2", 0, -1, 0, 0);
    }

    private void theLetters() {
        doc.says(15, "(one LETTER, or two; pass: a DAY.)");
        run("hand 4", 1, -1, 0, 0);
        run("hand 3", 1, -1, 0, 30);
        run("hand 5", -3, 0, 0, 0);
        run("hand 0-1", -3, 0, 0, 0);
        run("hand 0-1000*1000*1000", -3, 0, 0, 0);
        run("hand 1000*1000*1000", -3, 0, 0, 0);
        run("hand 0 with 3", 1, -1, 0, 60);
        run("hand 0 with 5", -3, 0, 0, 0);
        run("hand 5 with 0", -3, 0, 0, 0);
        run("hand 0 with 0-1", -3, 0, 0, 0);
        run("hand 0 with 0-2", -3, 0, 0, 0);
        run("hand 0 with 0", -3, 0, 0, 0);
        run("hand 0 with 4", -3, 0, 0, 0);
        TearPost x = post();
        Checks.orders(x, "hand 3 with 0");
        due("the first one's part", 48, x.at(3, 6));
        due("the rest", 12, x.at(0, 6));
    }

    private void words() {
        doc.says(15, "letters: how many there are, done: how many were run in this TEXT, paid: what was for the latest handing in"
                + " it (-1: none), tired, owed: of a READER (-1: no such).");
        run("pass if letters=5", 1, -1, 1, 0);
        run("hand 0;hand 1;pass if letters=5", 3, -1, 0 + 1, 55);
        run("pass times 3;pass if done=3;pass if done=4;pass if done=4", 5, -1, 5, 0);
        run("pass if 1=2;pass if done=0", 1, -1, 1, 0);
        run("pass if paid=0-1;hand 0;pass if paid=30;hand 4;pass if paid=0", 5, -1, 3, 30);
        run("pass;pass if paid=0-1", 2, -1, 2, 0);
        run("hand 0 with 1;pass if paid=60", 2, -1, 1, 60);
        run("hand 4;pass if owed 1=1;pass if owed 0=0", 3, -1, 2, 0);
        run("hand 0;pass if tired 0=5;pass if tired 0=2", 3, -1, 2, 30);
        run("pass if office=0;hand 0;pass if office=30", 3, -1, 2, 30);
        run("pass if day=0;pass if day=1", 2, -1, 2, 0);
        TearPost x = post();
        Checks.orders(x, "hand 0;pass");
        due("done, paid are of this text alone", 1, Checks.orders(x, "pass if done=0 and paid=0-1"));
        due("office, day, letters are not", 1, Checks.orders(x, "pass if office=30 and day=2 and letters=5"));
        due("no letters", 1, Checks.orders(new TearPost(), "pass if letters=0 and office=0"));
    }

    private void wordsOfNoOne() {
        doc.says(15, "tired, owed: of a READER (-1: no such).");
        for (int r = 0; r <= 7; r++) {
            run("pass if tired " + r + "=" + (r <= 1 ? "0" : "0-1"), 1, -1, 1, 0);
            run("pass if owed " + r + "=" + (r <= 1 ? "0" : "0-1"), 1, -1, 1, 0);
        }
        TearPost x = EdgesOfPost.withReaders(8);
        x.tire(7, 999);
        due("tired 7 of eight", 1, Checks.orders(x, "pass if tired 7=999 and owed 7=0"));
        due("tired 0 of none", 1, Checks.orders(new TearPost(), "pass if tired 0+owed 0=0-2"));
    }

    private void sumsThatAreBroken() {
        doc.says(15, "One that can't be (a BROKEN SUM, as hand(), pass() are REFUSED) ends it: all is as it was ahead of it.");
        run("pass;hand 1/0", -3, 1, 0, 0);
        run("pass;hand 1%0", -3, 1, 0, 0);
        run("pass;hand 1000*1000*1000+1", -3, 1, 0, 0);
        run("pass;hand 0-1000*1000*1000-1", -3, 1, 0, 0);
        run("pass;hand 0 with 1/0", -3, 1, 0, 0);
        run("pass;hand 1/0 with 1", -3, 1, 0, 0);
        run("hand 1/done", -3, 0, 0, 0);
        run("pass;hand 1/done", 2, -1, 1, 30);
        run("hand 1000*1000*1000-1000*1000*1000", 1, -1, 0, 30);
        run("hand 1000*1000*1000+1-1000*1000*1000-1", -3, 0, 0, 0);
    }

    private void handsThatCannotBe() {
        doc.says(15, "One that can't be (a BROKEN SUM, as hand(), pass() are REFUSED) ends it: all is as it was ahead of it.");
        run("pass;hand 0 times 2", -3, 1, 0, 0);
        run("hand 0;hand 1 with 0", -3, 1, 0, 0);
        run("hand 0;hand 0 with 1", -3, 1, 0, 0);
        TearPost x = post();
        x.reader(1, 6);
        x.letter(1, 0, 1, 2, 0);
        due("no way", -3, Checks.orders(x, "hand 0;hand 5"));
        due("count(13)", 0, x.count(13));
        x.road(0, 6);
        due("a way", 2, Checks.orders(x, "hand 0;hand 5"));
        Checks.rule(x, "bars if had=2");
        due("barred", -3, Checks.orders(x, "hand 1;hand 2"));
        due("had is as it was", 1, x.of(0, 3));
        due("not barred at first", 1, Checks.orders(x, "hand 1"));
        due("barred then", -3, Checks.orders(x, "hand 2"));
    }

    private void passesThatCannotBe() {
        doc.says(15, "One that can't be (a BROKEN SUM, as hand(), pass() are REFUSED) ends it: all is as it was ahead of it.");
        TearPost x = post();
        x.tire(0, 100);
        x.terms(0, 979);
        due("the days up to 999 and one more", -3, Checks.orders(x, "pass times 20;pass"));
        due("stopped()", 1, x.stopped());
        due("the day", 979, x.count(14));
        due("tired", 100, x.of(0, 2));
        due("the days up to 999", 20, Checks.orders(x, "pass times 20"));
        due("the day", 999, x.count(14));
        due("tired", 40, x.of(0, 2));
        due("a day behind 999", -3, Checks.orders(x, "hand 0;pass"));
        due("the letter is held", 0, x.at(0, 5));
        due("a day behind 999 that is not run", 1, Checks.orders(x, "hand 0;pass if day<999"));
    }

    private void allIsAsItWas() {
        doc.says(15, "ends it: all is as it was ahead of it.");
        TearPost x = post();
        x.hand(0, -1);
        for (int k = 0; k < 15; k++) {
            x.pass();
        }
        due("thirty days and a letter that is read", -3, Checks.orders(x, "pass times 20;hand 1;pass times 10;hand 0"));
        due("count(5)", 16, x.count(5));
        due("the day", 15, x.count(14));
        due("letter 1", 0, x.at(1, 5));
        due("paid for letter 1", 0, x.at(1, 6));
        due("paid by reader 0", 30, x.of(0, 5));
        due("the office", 30, x.count(13));
        for (int k = 0; k < 15; k++) {
            due("undo() of a day", 2, x.undo());
            due("the day", 14 - k, x.count(14));
        }
        due("undo() of the letter", 0, x.undo());
        due("letter 0", 0, x.at(0, 5));
        due("undo() of nothing", -3, x.undo());
    }

    private void stopped() {
        doc.says(17, "Which CLAUSE of the latest orders() could not be. NONE.");
        TearPost x = post();
        due("stopped() ahead of any", -1, x.stopped());
        for (int clause = 0; clause <= 11; clause++) {
            String text = Checks.times(clause, "pass", ";") + (clause > 0 ? ";" : "") + "hand 9"
                    + Checks.times(11 - clause, ";hand 8", "");
            due("orders() of '" + text + "'", -3, Checks.orders(x, text));
            due("stopped() of '" + text + "'", clause, x.stopped());
        }
        due("clauses that are not run are counted, too", -3, Checks.orders(x, "hand 9 if 1=2;pass times 5;hand 9"));
        due("stopped()", 2, x.stopped());
        x.hand(9, 9);
        Checks.law(x, "x");
        due("stopped() behind other calls", 2, x.stopped());
        due("orders() that were run", 1, Checks.orders(x, "pass"));
        due("stopped() of them", -1, x.stopped());
        Checks.orders(x, "hand 9");
        due("orders() that can't be read", -6, Checks.orders(x, "hand 9;x"));
        due("stopped() of them", -1, x.stopped());
    }
}
