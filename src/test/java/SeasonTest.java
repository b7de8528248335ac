/** Promises 33 and 34: seasons by draws, and what was drawn in them. */
public final class SeasonTest {
    private static final Checks CHECKS = new Checks();

    private static void due(String call, long want, long got) {
        CHECKS.due(call, want, got);
    }

    public static void main(String[] args) {
        refusals();
        draws();
        readAgain();
        whatCannotBeHanded();
        lastDay();
        latest();
        CHECKS.close("SeasonTest");
    }

    private static void refusals() {
        TearPost x = new TearPost();
        due("no letters", -3, x.season(0, 1));
        due("seed -1", -1, x.season(-1, 1));
        due("seed 1,000,001", -1, x.season(1000001, 1));
        due("0 days", -1, x.season(0, 0));
        due("61 days", -1, x.season(0, 61));
        x.reader(1, 0);
        due("no letters", -3, x.season(1000000, 60));
        due("drawn() of none", -1, x.drawn(0, 0));
        x.letter(1, 0, 1, 0, 0);
        due("season(1000000, 60)", 1, x.season(1000000, 60) > 0 ? 1 : 0);
    }

    private static void draws() {
        TearPost x = new TearPost();
        x.reader(1, 0);
        x.reader(1, 0);
        x.letter(4, 0, 1, 0, 0);
        x.letter(9, 0, 1, 1, 0);
        x.letter(30, 30, 1, 1, 0);
        Checks.rule(x, "weeps grief;tires grief;rests 1");
        // from 0: 12345 (letter 0), 12345 * 1103 + 12345 = 13,628,880, 628,841 behind 13 times 1,000,003 (letter 2)
        due("a day", 4, x.season(0, 1));
        due("paid by 0", 4, x.drawn(0, 0));
        due("read by 0", 1, x.drawn(0, 1));
        due("tired 0, behind a night", 3, x.drawn(0, 2));
        due("paid by 1", 0, x.drawn(1, 0));
        due("tired 1", 0, x.drawn(1, 2));
        due("two days", 34, x.season(0, 2));
        due("paid by 1", 30, x.drawn(1, 0));
        due("read by 1", 1, x.drawn(1, 1));
        due("tired 1", 29, x.drawn(1, 2));
        due("tired 0", 2, x.drawn(0, 2));
        due("drawn(2, 0)", -1, x.drawn(2, 0));
        due("drawn(-1, 0)", -1, x.drawn(-1, 0));
        due("drawn(0, 3)", -1, x.drawn(0, 3));
        due("drawn(0, -1)", -1, x.drawn(0, -1));
        x.hand(0, -1);
        due("paid in the season alone", 34, x.season(0, 2));
        due("paid by 0 in it", 4, x.drawn(0, 0));
        due("read by 0 in it", 1, x.drawn(0, 1));
        due("tired 0 goes on from now", 6, x.drawn(0, 2));
        due("on paper: office", 4, x.count(13));
        due("on paper: day", 0, x.count(14));
        due("what can be undone stays", 1, x.count(5));
    }

    private static void readAgain() {
        TearPost x = new TearPost();
        x.reader(1, 0);
        x.letter(10, 0, 1, 0, 0);
        Checks.rule(x, "weeps 100+had*10+day;tires 0");
        x.hand(0, -1);
        due("the only letter, again and again", 110 + 121 + 132, x.season(5, 3));
        due("read", 3, x.drawn(0, 1));
        due("had", 1, x.of(0, 3));
        due("paid for it", 100, x.at(0, 6));
    }

    private static void whatCannotBeHanded() {
        TearPost x = new TearPost();
        x.reader(5, 1);
        x.letter(10, 0, 1, 0, 0);
        x.tire(0, 7);
        due("no way", 0, x.season(3, 2));
        due("read", 0, x.drawn(0, 1));
        due("rested", 1, x.drawn(0, 2));
        x.road(0, 1);
        due("a way", 43, x.season(3, 1));
        Checks.rule(x, "bars if day=0");
        due("barred at first", 50 - 4, x.season(3, 2));
        due("read", 1, x.drawn(0, 1));
    }

    private static void lastDay() {
        TearPost x = new TearPost();
        x.reader(1, 0);
        x.letter(10, 0, 1, 0, 0);
        x.terms(0, 998);
        Checks.rule(x, "weeps 1;tires 10;rests 1");
        due("it ends behind 999", 2, x.season(3, 60));
        due("read", 2, x.drawn(0, 1));
        due("no night behind the last", 19, x.drawn(0, 2));
    }

    private static void latest() {
        TearPost x = new TearPost();
        x.reader(1, 0);
        x.letter(10, 0, 1, 0, 0);
        x.image(0);
        due("season", 10, x.season(3, 1));
        due("a refused one", -1, x.season(3, 61));
        due("is not the latest", 10, x.drawn(0, 0));
        x.reader(1, 0);
        due("a reader who was not in it", -1, x.drawn(1, 0));
        x.back(0);
        due("images don't keep it", 10, x.drawn(0, 0));
        x.tire(0, 10);
        due("season", 0, x.season(3, 1));
        due("the latest", 0, x.drawn(0, 0));
        due("tired", 12, x.drawn(0, 2));
    }
}
