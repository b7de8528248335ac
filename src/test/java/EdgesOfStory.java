import java.util.ArrayList;
import java.util.List;
import java.util.function.ToIntFunction;

/** The document's first line, phrase by phrase, on one post; and what its last lines leave: no call does more than told. */
final class EdgesOfStory {
    private static final int NONE = -1;

    private final Sentences doc;
    private final TearPost x = new TearPost();

    EdgesOfStory(Sentences doc) {
        this.doc = doc;
    }

    private void due(String call, long want, long got) {
        doc.due(call, want, got);
    }

    void all() {
        people();
        paying();
        letters();
        laws();
        orders();
        whatIsPaid();
        onPaper();
        roadsAndBags();
        takenBack();
        seasons();
        allGoneBackTo();
        alikeCalls();
        severalThreads();
        askingChangesNothing();
    }

    /** One soft reader, one hard, one out of reach. */
    private void people() {
        doc.says(1, "readers soft or hard in towns with roads,");
        due("road(0, 1)", 0, x.road(0, 1));
        due("road(1, 2)", 1, x.road(1, 2));
        due("road(0, 2)", 2, x.road(0, 2));
        due("a soft reader", 0, x.reader(4, 1));
        due("a hard reader", 1, x.reader(0, 2));
        due("one where no road leads", 2, x.reader(1, 5));
        due("letter(10, 0, 3, 0, 0)", 0, x.letter(10, 0, 3, 0, 0));
        due("letter(5, 9, 1, 0, 1)", 1, x.letter(5, 9, 1, 0, 1));
        due("letter(8, 0, 2, 1, 0)", 2, x.letter(8, 0, 2, 1, 0));
        due("letter(6, 0, 4, 0, 1)", 3, x.letter(6, 0, 4, 0, 1));
        due("what the soft one weeps", 40, x.asks(0, NONE, 0));
        due("what the hard one weeps", 0, x.asks(2, NONE, 0));
        due("the way to the soft one", 1, x.way(0));
        due("the way to the one out of reach", NONE, x.way(2));
    }

    private void paying() {
        doc.says(1, "A post that is paid by whoever gets a letter, after it was read, in tears:");
        due("the office ahead of it", 0, x.count(13));
        due("what the reader paid ahead of it", 0, x.of(0, 5));
        due("hand(0, -1)", 40, x.hand(0, NONE));
        due("read", 1, x.at(0, 5));
        due("what was paid for it", 40, x.at(0, 6));
        due("what the reader paid", 40, x.of(0, 5));
        due("what another one paid", 0, x.of(1, 5));
        due("the office", 40, x.count(13));
        due("undo()", 0, x.undo());
    }

    private void letters() {
        doc.says(1, "letters with griefs and jokes, one or two at once;");
        due("a grief", 0, x.asks(0, NONE, 1));
        due("a joke", 1, x.asks(1, NONE, 1));
        due("what is paid for the joke", 0, x.hand(1, NONE));
        due("undo()", 0, x.undo());
        due("both at once are no joke", 0, x.asks(0, 1, 1));
        due("what is wept for both", 60, x.asks(0, 1, 0));
    }

    private void laws() {
        doc.says(1, "laws in a language of how much one weeps, when one laughs, how reading tires, what rest does, what can't be"
                + " handed;");
        due("law()", 0, Checks.law(x, "weeps 7;laughs if joke=9;tires 11;rests 2;bars if weight=4"));
        due("force(0)", NONE, x.force(0));
        due("how much one weeps", 7, x.asks(0, NONE, 0));
        due("when one laughs", 1, x.asks(1, NONE, 1));
        due("when one does not", 0, x.asks(0, NONE, 1));
        due("how reading tires", 11, x.asks(0, NONE, 2));
        due("what rest does", 2, x.rests(0));
        due("what can't be handed", 1, x.asks(3, NONE, 3));
        due("hand(3, -1)", -3, x.hand(3, NONE));
        due("force(NONE)", 0, x.force(NONE));
        due("without it", 40, x.asks(0, NONE, 0));
    }

    private void orders() {
        doc.says(1, "orders in a second language that are run wholly or not at all;");
        due("orders() that can't be", -3, Checks.orders(x, "hand 0;pass;hand 0"));
        due("the day", 0, x.count(14));
        due("held", 4, x.count(3));
        due("orders() that can be", 2, Checks.orders(x, "hand 0;pass"));
        due("the day", 1, x.count(14));
        due("held", 3, x.count(3));
        due("undo()", 2, x.undo());
        due("undo()", 0, x.undo());
    }

    private void whatIsPaid() {
        doc.says(1, "what is paid, owed, shared by weight, sent onward;");
        due("what is paid", 60, x.hand(0, 1));
        due("shared by weight: 3 of 4", 45, x.at(0, 6));
        due("shared by weight: 1 of 4", 15, x.at(1, 6));
        due("nothing by the hard one", 0, x.hand(2, NONE));
        due("owed", 1, x.of(1, 4));
        due("sent onward", 9, x.onward(0, 1));
        due("whose it is", 1, x.at(0, 3));
        due("undo()", 1, x.undo());
        due("undo()", 0, x.undo());
        due("undo()", 0, x.undo());
    }

    private void onPaper() {
        doc.says(1, "the order by which a reader pays most, games of two senders, who joked by what was paid, what was in a letter,");
        // 1 (a joke), 3, 0: 24 and 40, for a day's rest is more than what 1 and 3 tire; 0 at first tires 2 more than that
        due("the most that is paid", 64, x.order(0, NONE));
        due("the first letter of it", 1, x.order(0, 0));
        due("the second", 3, x.order(0, 1));
        due("the third", 0, x.order(0, 2));
        // sender 0 has letter 0 alone, 40; sender 1 then 3 (24 less 5) ahead of 1
        due("how much more sender 0 is paid", 21, x.game(0, 0));
        due("its first letter", 0, x.game(0, 1));
        // 40, 20 - 5, 24 - 7 are what could be paid by reader 0; the hard one's letter may be a joke or not
        due("ledger(0, 57)", NONE, x.ledger(0, 57));
        due("who joked: how many sets", 2, x.joked(NONE));
        due("letter 1", 2, x.joked(0));
        due("letters 1 and 2", 6, x.joked(1));
        due("what was in letter 0: how many griefs", 1, x.inside(0, 40, NONE));
        due("the one", 10, x.inside(0, 40, 0));
    }

    private void roadsAndBags() {
        doc.says(1, "the fewest roads that must be cut, the fewest bags;");
        due("how many roads", 2, x.cut(0, 0));
        due("which", 3, x.cut(0, 1));
        due("how many bags", 2, x.bags(5, 0));
        due("the first of them: 3 and 2", 5, x.bags(5, 1));
    }

    private void takenBack() {
        doc.says(1, "letters taken back, seasons by draws; all gone back to.");
        due("hand(0, -1)", 40, x.hand(0, NONE));
        due("held", 3, x.count(3));
        due("undo()", 0, x.undo());
        due("held", 4, x.count(3));
        due("the office", 0, x.count(13));
    }

    private void seasons() {
        doc.says(1, "letters taken back, seasons by draws; all gone back to.");
        // 5 times 1103 and 12345 is 17860, and 0 modulo 4
        due("season(5, 1)", 40, x.season(5, 1));
        due("what reader 0 paid in it", 40, x.drawn(0, 0));
        due("what reader 0 read in it", 1, x.drawn(0, 1));
        due("how tired reader 0 is behind it", 2, x.drawn(0, 2));
    }

    private void allGoneBackTo() {
        doc.says(1, "letters taken back, seasons by draws; all gone back to.");
        due("image(0)", 0, x.image(0));
        x.hand(3, NONE);
        x.pass();
        x.tire(1, 500);
        x.mow();
        x.ledger(0, 1);
        x.terms(1, 99);
        x.force(0);
        due("back(0)", 0, x.back(0));
        int[] want = {3, 3, 4, 4, 1, 0};
        for (int what = 0; what < want.length; what++) {
            due("count(" + what + ")", want[what], x.count(what));
        }
        due("the law in force", NONE, x.count(12));
        due("the office", 0, x.count(13));
        due("the day", 0, x.count(14));
        due("the ink", 10, x.count(15));
        due("tired", 0, x.of(1, 2));
        due("the ledger", 57, x.of(0, 6));
    }

    private void none(String what, String differs) {
        due(what + " (" + differs + ")", 1, differs.isEmpty() ? 1 : 0);
    }

    private void alikeCalls() {
        doc.says(1, "How the state is held inside the object is free, as are the speed of each call, the text of toString and the"
                + " behaviour of equals and hashCode.");
        TearPost first = Looks.lived();
        for (int n = 0; n < 3; n++) {
            TearPost other = Looks.lived();
            other.hand(1, NONE);
            other.road(5, 6);
            Checks.rule(other, "weeps 900");
            other.season(1, 60);
        }
        none("two objects answer alike calls alike, whatever others are asked", Looks.difference(first, Looks.lived()));
    }

    /** One object in several threads is left free; objects that have nothing in common but their class are not. */
    private void severalThreads() {
        doc.says(1, "Use of one object from several threads at once is not promised to be safe.");
        List<String> differences = java.util.Collections.synchronizedList(new ArrayList<>());
        List<Thread> threads = new ArrayList<>();
        for (int n = 0; n < 4; n++) {
            threads.add(new Thread(() -> {
                for (int k = 0; k < 20; k++) {
                    differences.add(Looks.difference(Looks.lived(), Looks.lived()));
                }
            }));
        }
        threads.forEach(Thread::start);
        for (Thread thread : threads) {
            try {
                thread.join();
            } catch (InterruptedException e) {
                throw new IllegalStateException(e);
            }
        }
        due("pairs of objects that were asked in threads", 80, differences.size());
        for (String differs : differences) {
            none("an object for each thread", differs);
        }
    }

    private void only(String call, ToIntFunction<TearPost> asked) {
        TearPost one = Looks.lived();
        int answer = asked.applyAsInt(one);
        due(call + " asked again", answer, asked.applyAsInt(one));
        none("whether all is as it was behind " + call, Looks.difference(one, Looks.lived()));
        TearPost other = Looks.lived();
        other.mow();
        int status = other.road(3, 3);
        asked.applyAsInt(other);
        due("status() behind " + call, status, other.status());
    }

    private void askingChangesNothing() {
        doc.says(1, "Nothing is promised beyond the answers and state changes described above,");
        for (int what = 0; what <= 6; what++) {
            int n = what;
            only("of(0, " + what + ")", p -> p.of(0, n));
            only("at(0, " + what + ")", p -> p.at(0, n));
        }
        for (int what = 0; what <= 3; what++) {
            int n = what;
            only("asks(1, -1, " + what + ")", p -> p.asks(1, NONE, n));
            only("asks(2, 3, " + what + ")", p -> p.asks(2, 3, n));
        }
        for (int what = 0; what <= 1; what++) {
            int n = what;
            only("game(1, " + what + ")", p -> p.game(1, n));
            only("cut(1, " + what + ")", p -> p.cut(1, n));
            only("bags(9, " + what + ")", p -> p.bags(9, n));
        }
        for (int i = -1; i <= 1; i++) {
            int n = i;
            only("order(1, " + i + ")", p -> p.order(1, n));
            only("joked(" + i + ")", p -> p.joked(n));
            only("inside(1, 30, " + i + ")", p -> p.inside(1, 30, n));
            only("drawn(0, " + (i + 1) + ")", p -> p.drawn(0, n + 1));
        }
        for (int what = 0; what <= 16; what++) {
            int n = what;
            only("count(" + what + ")", p -> p.count(n));
        }
        only("rests(0)", p -> p.rests(0));
        only("way(1)", p -> p.way(1));
        only("blots()", TearPost::blots);
        only("fault()", TearPost::fault);
        only("stopped()", TearPost::stopped);
        only("status()", TearPost::status);
    }
}
