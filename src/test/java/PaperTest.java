/** Promises 25 to 29: the best order, games, ledgers, who joked, what was inside. */
public final class PaperTest {
    private static final Checks CHECKS = new Checks();

    private static void due(String call, long want, long got) {
        CHECKS.due(call, want, got);
    }

    private static void orderIs(TearPost x, int reader, int paid, int... letters) {
        due("order(" + reader + ", -1)", paid, x.order(reader, -1));
        for (int k = 0; k < letters.length; k++) {
            due("order(" + reader + ", " + k + ")", letters[k], x.order(reader, k));
        }
        due("order() behind the last", -1, x.order(reader, letters.length));
        due("order(.., -2)", -1, x.order(reader, -2));
    }

    public static void main(String[] args) {
        orders();
        ordersByLaw();
        ordersOfManyLetters();
        games();
        gamesByLaw();
        ledgers();
        joked();
        jokedByLaw();
        inside();
        nothingChanges();
        CHECKS.close("PaperTest");
    }

    private static void orders() {
        TearPost x = new TearPost();
        due("no reader", -1, x.order(0, -1));
        // town 5 can't be reached: roads are aside here
        x.reader(2, 5);
        x.reader(2, 0);
        orderIs(x, 0, 0);
        due("no reader -1", -1, x.order(-1, -1));
        x.letter(8, 0, 1, 0, 0);
        x.letter(8, 0, 1, 1, 0);
        x.letter(20, 0, 1, 0, 1);
        x.letter(8, 0, 1, 0, 0);
        // tires 4, 10, 4, a day's rest 3: first both small ones (16, 15), then 40 - 2
        orderIs(x, 0, 16 + 15 + 38, 0, 3, 2);
        x.tire(0, 30);
        // 40 - 30 first would pay 10 and tire more; later, behind 30, 31, 32, the large one pays 8
        orderIs(x, 0, 10, 2, 0, 3);
        x.tire(0, 0);
        x.terms(0, 999);
        orderIs(x, 0, 69, 0, 3, 2);
        x.hand(1, -1);
        orderIs(x, 1, 0);
    }

    private static void ordersByLaw() {
        TearPost x = new TearPost();
        x.reader(1, 0);
        for (int k = 0; k < 4; k++) {
            x.letter(k, 0, 1 + k, 0, 0);
        }
        x.terms(0, 10);
        Checks.rule(x, "weeps weight*[day-10];tires 0");
        orderIs(x, 0, 2 + 6 + 12, 0, 1, 2, 3);
        Checks.rule(x, "weeps weight*[14-day];tires 0");
        orderIs(x, 0, 16 + 9 + 4 + 1, 3, 2, 1, 0);
        Checks.rule(x, "weeps 7");
        orderIs(x, 0, 28, 0, 1, 2, 3);
        Checks.rule(x, "weeps 7;bars if weight=1 and had=0;bars if weight=4 and had<3");
        orderIs(x, 0, 28, 1, 0, 2, 3);
        Checks.rule(x, "weeps 7;bars if weight=1 and had<4");
        due("it can't be", -1, x.order(0, -1));
        due("it can't be", -1, x.order(0, 0));
        Checks.rule(x, "weeps 7;laughs if had=1 and weight<4;tires 50;rests 50");
        orderIs(x, 0, 28, 0, 3, 1, 2);
        TearPost z = new TearPost();
        z.reader(1, 0);
        for (int k = 0; k < 4; k++) {
            z.letter(k, 0, 1 + k, 0, 0);
        }
        Checks.rule(z, "weeps 50-tired;tires 20;rests had*2");
        // behind the first had is 1, and one rests by 2, behind the second by 4, behind the third by 6
        orderIs(z, 0, 50 + 32 + 16 + 2, 0, 1, 2, 3);
        TearPost y = new TearPost();
        y.reader(1, 0);
        y.letter(1, 0, 1, 0, 0);
        y.letter(2, 0, 1, 0, 0);
        y.terms(0, 999);
        Checks.rule(y, "weeps day-990+tired;tires grief*10;rests day-995");
        // day stays 999, yet each rests 4: 9 + 25, or 9 + 15
        orderIs(y, 0, 9 + 9 + 16, 1, 0);
    }

    private static void ordersOfManyLetters() {
        TearPost x = new TearPost();
        x.reader(9, 0);
        for (int k = 0; k < 8; k++) {
            x.letter(1 + k, 0, 1, 0, 0);
        }
        due("order() of 8", 9 * 36, x.order(0, -1) + tiredness(x));
        x.letter(1, 0, 1, 0, 0);
        due("order() of 9", -1, x.order(0, -1));
        due("order() of 9", -1, x.order(0, 0));
        due("game() of 9", -1000000, x.game(0, 0));
        due("game() of 9", -1000000, x.game(0, 1));
    }

    /** What being tired costs in the order told, by handing it day by day on a post of its own. */
    private static int tiredness(TearPost x) {
        TearPost y = new TearPost();
        y.reader(9, 0);
        for (int k = 0; k < 8; k++) {
            y.letter(1 + k, 0, 1, 0, 0);
        }
        int cost = 0;
        for (int k = 0; k < 8; k++) {
            int letter = x.order(0, k);
            cost += y.of(0, 2);
            y.hand(letter, -1);
            y.pass();
        }
        due("what it pays when it is done", x.order(0, -1), y.count(13));
        return cost;
    }

    private static void games() {
        TearPost x = new TearPost();
        due("no reader", -1000000, x.game(0, 0));
        x.reader(2, 5);
        due("no letters", 0, x.game(0, 0));
        due("no letters", -1, x.game(0, 1));
        x.letter(10, 0, 1, 0, 1);
        due("sender 1 alone", -20, x.game(0, 0));
        due("sender 1 alone", 0, x.game(0, 1));
        x.image(0);
        x.letter(10, 0, 1, 0, 1);
        due("the lowest of sender 1's alike ones", 0, x.game(0, 1));
        due("both of them, 20 and 15", -35, x.game(0, 0));
        x.back(0);
        x.letter(10, 0, 1, 0, 0);
        due("sender 0 begins: 20 - 15", 5, x.game(0, 0));
        due("sender 0 begins", 1, x.game(0, 1));
        due("what 2", -1000000, x.game(0, 2));
        due("what -1", -1000000, x.game(0, -1));
        due("no reader -1", -1000000, x.game(-1, 0));
        x.letter(10, 0, 1, 0, 0);
        // 20, then 15 for the other, then 10
        due("two of sender 0", 15, x.game(0, 0));
        due("the lowest of alike ones", 1, x.game(0, 1));
        TearPost y = new TearPost();
        y.reader(1, 0);
        y.letter(6, 0, 1, 0, 0);
        y.letter(20, 30, 1, 0, 0);
        y.letter(18, 0, 1, 0, 1);
        y.letter(2, 0, 1, 0, 1);
        // tiring jokes: 1 is laughed at and tires by 10, so it spoils the other's; then 18 - 10, then 6 - 19, 2 - 22
        due("a joke as a weapon", -8, y.game(0, 0));
        due("a joke as a weapon", 1, y.game(0, 1));
    }

    private static void gamesByLaw() {
        TearPost x = new TearPost();
        x.reader(1, 0);
        x.letter(5, 0, 1, 0, 0);
        x.letter(7, 0, 2, 0, 1);
        x.letter(9, 0, 3, 0, 0);
        Checks.rule(x, "weeps grief;bars if weight=1 and had=0;bars if weight=3 and had<2");
        // sender 0 has none that can be: 1 goes on, then 0, then 0 again
        due("the other one goes on", 5 - 7 + 9, x.game(0, 0));
        due("the first letter is sender 1's", 1, x.game(0, 1));
        Checks.rule(x, "bars");
        due("none that can be", 0, x.game(0, 0));
        due("none that can be", -1, x.game(0, 1));
        Checks.rule(x, "weeps grief*[had+1]");
        // 5, 14, 27 or 9, 14, 15
        due("game", 5 - 14 + 27, x.game(0, 0));
        due("game", 0, x.game(0, 1));
        x.terms(0, 5);
        Checks.rule(x, "weeps grief*day;tires 99");
        due("no day goes by", 5 * (5 - 7 + 9), x.game(0, 0));
    }

    private static void ledgers() {
        TearPost x = new TearPost();
        due("no reader", -2, x.ledger(0, 5));
        due("no reader, a number that can't be", -1, x.ledger(0, 100000));
        x.reader(1, 0);
        due("ledger(0, 99999)", -1, x.ledger(0, 99999));
        due("ledger(0, 100000)", -1, x.ledger(0, 100000));
        due("ledger(0, -2)", -1, x.ledger(0, -2));
        due("ledger(1, 0)", -2, x.ledger(1, 0));
        due("ledger(-1, 0)", -2, x.ledger(-1, 0));
        due("of(0, 6)", 99999, x.of(0, 6));
        due("ledger(0, 0)", 99999, x.ledger(0, 0));
        due("ledger(0, -1)", 0, x.ledger(0, -1));
        due("of(0, 6)", -1, x.of(0, 6));
    }

    private static void joked() {
        TearPost x = new TearPost();
        due("joked(-1) of nothing", 1, x.joked(-1));
        due("joked(0) of nothing", 0, x.joked(0));
        due("joked(-2)", -1, x.joked(-2));
        x.reader(1, 5);
        x.reader(1, 0);
        x.letter(10, 30, 1, 0, 0);
        x.letter(12, 0, 1, 1, 0);
        x.letter(9, 0, 1, 0, 0);
        due("all sets", 8, x.joked(-1));
        for (int k = 0; k < 8; k++) {
            due("joked(" + k + ")", k, x.joked(k));
        }
        due("joked(8)", -1, x.joked(8));
        // reader 0 pays 10 for letter 0, then 9 - 5 for letter 2
        x.ledger(0, 14);
        due("both of reader 0 were meant, roads aside, laughs aside", 2, x.joked(-1));
        due("joked(0)", 0, x.joked(0));
        due("joked(1)", 2, x.joked(1));
        x.ledger(0, 4);
        due("letter 0 was a joke: it tires all the same", 1, x.joked(0));
        x.ledger(1, 12);
        due("letter 1 was not", 1, x.joked(-1));
        x.ledger(0, 5);
        due("no set", 0, x.joked(-1));
        due("no set", -1, x.joked(0));
        x.ledger(0, -1);
        due("of reader 1 alone", 4, x.joked(-1));
        due("joked(3)", 5, x.joked(3));
        due("hand(1)", 12, x.hand(1, -1));
        due("what one had paid, too; letters that are held alone", 4, x.joked(-1));
        x.ledger(1, 0);
        due("what one had paid is above it", 0, x.joked(-1));
        x.ledger(1, -1);
        Checks.rule(x, "weeps 3+had;laughs;bars;tires 0");
        x.ledger(0, 7);
        due("laughs, bars aside; had goes up", 1, x.joked(-1));
        x.ledger(0, 4);
        due("had goes up by a joke, too", 1, x.joked(0));
        TearPost y = new TearPost();
        y.reader(1, 0);
        for (int k = 0; k < 12; k++) {
            y.letter(30, 0, 1, 0, 0);
        }
        due("joked() of 12", 4096, y.joked(-1));
        due("joked(4095)", 4095, y.joked(4095));
        due("joked(4096)", -1, y.joked(4096));
        for (int k = 1; k < 8; k++) {
            y.reader(1, 0);
        }
        due("joked() with eight readers", 4096, y.joked(-1));
        Checks.rule(y, "weeps 1");
        y.ledger(0, 11);
        due("one joke", 12, y.joked(-1));
        due("the last", 2048, y.joked(11));
    }

    private static void jokedByLaw() {
        TearPost x = new TearPost();
        x.reader(2, 0);
        x.reader(3, 4);
        x.terms(0, 5);
        x.terms(2, 7);
        x.letter(10, 2, 3, 1, 0);
        x.letter(20, 4, 6, 0, 1);
        x.letter(30, 6, 9, 1, 0);
        Checks.rule(x, "weeps joke*10+weight+with*100+had*200;tires 90;laughs if 1=2");
        // reader 1 weeps 20 + 3 + 100 for letter 0, 60 + 9 + 100 + 200 for letter 2; reader 0 weeps 40 + 6 + 100
        x.ledger(1, 123 + 369);
        x.ledger(0, 146);
        due("none joked, by joke, weight, with, had", 1, x.joked(-1));
        due("the empty set", 0, x.joked(0));
        x.ledger(1, 369);
        due("letter 0 did", 1, x.joked(0));
        x.ledger(0, 0);
        due("letter 1 did, too", 3, x.joked(0));
        Checks.rule(x, "weeps tired+reader*200;tires 60+had");
        x.tire(1, 30);
        x.tire(0, 17);
        x.ledger(0, 17);
        // reader 1 weeps 230, is 90 then, weeps 290
        x.ledger(1, 290);
        due("tired goes up by a joke, too", 1, x.joked(0));
        x.ledger(1, 520);
        due("none joked, by tired", 0, x.joked(0));
        due("one set", 1, x.joked(-1));
        Checks.rule(x, "weeps tired;tires 50;rests 99");
        x.tire(1, 990);
        x.ledger(1, 999);
        due("tired is 999 at most", 1, x.joked(0));
        x.ledger(1, 1989);
        due("both", 0, x.joked(0));
        Checks.rule(x, "weeps grief*10+day+mood;tires 0");
        x.ledger(0, 212);
        x.ledger(1, 312);
        due("day and mood stay", 1, x.joked(0));
        due("nobody is handed anything", 3, x.count(3));
        due("tired stays", 990, x.of(1, 2));
    }

    private static void inside() {
        TearPost x = new TearPost();
        due("no letter", -1, x.inside(0, 0, -1));
        x.reader(2, 5);
        x.letter(9, 4, 3, 0, 0);
        x.tire(0, 11);
        due("nothing paid: laughs below 4, and 2 * 5 - 11", 6, x.inside(0, 0, -1));
        due("the last of them", 5, x.inside(0, 0, 5));
        due("behind it", -1, x.inside(0, 0, 6));
        due("1 is paid", 1, x.inside(0, 1, -1));
        due("by grief 6", 6, x.inside(0, 1, 0));
        due("2 can't be", 0, x.inside(0, 2, -1));
        due("2 can't be", -1, x.inside(0, 2, 0));
        due("49 by 30", 30, x.inside(0, 49, 0));
        due("51 would be by 31", 0, x.inside(0, 51, -1));
        due("-1 is never paid", 0, x.inside(0, -1, -1));
        due("i -2", -1, x.inside(0, 0, -2));
        due("letter 1", -1, x.inside(1, 0, -1));
        due("letter -1", -1, x.inside(-1, 0, -1));
        Checks.rule(x, "weeps grief%3*weight;laughs if grief=10 or joke=5");
        due("3 is paid", 9, x.inside(0, 3, -1));
        due("without the 10 that is laughed at", 13, x.inside(0, 3, 3));
        due("nothing paid", 12, x.inside(0, 0, -1));
        x.road(0, 5);
        x.hand(0, -1);
        due("of one that is read", 9, x.inside(0, 3, -1));
    }

    private static void nothingChanges() {
        TearPost x = new TearPost();
        x.reader(2, 0);
        x.letter(9, 4, 3, 0, 0);
        x.letter(8, 4, 3, 0, 1);
        x.order(0, -1);
        x.order(0, 1);
        x.game(0, 0);
        x.joked(-1);
        x.inside(0, 3, -1);
        x.season(7, 60);
        due("day", 0, x.count(14));
        due("office", 0, x.count(13));
        due("held", 2, x.count(3));
        due("grief", 9, x.at(0, 0));
        for (int what = 2; what <= 5; what++) {
            due("of(0, " + what + ")", 0, x.of(0, what));
        }
        due("count(5)", 0, x.count(5));
    }
}
