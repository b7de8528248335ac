/** Promises 18 to 20: what LAWS tell, as asks() and rests() answer it. */
public final class LawTest {
    private static final Checks CHECKS = new Checks();
    private static final int WEEPS = 0;
    private static final int LAUGHS = 1;
    private static final int TIRES = 2;
    private static final int BARS = 3;

    private static void due(String call, long want, long got) {
        CHECKS.due(call, want, got);
    }

    /** Reader 1: soft 4, tired 6, had 2; letter 0: grief 10, joke 7, weight 3; letter 1: grief 5, joke 9, weight 8. */
    private static TearPost post() {
        TearPost x = new TearPost();
        x.reader(2, 0);
        x.reader(4, 0);
        x.letter(10, 7, 3, 1, 0);
        x.letter(5, 9, 8, 1, 1);
        x.letter(1, 0, 1, 0, 0);
        x.letter(1, 0, 1, 1, 0);
        x.letter(1, 0, 1, 1, 0);
        x.hand(3, 4);
        x.terms(0, 77);
        x.terms(2, 8);
        x.tire(1, 6);
        return x;
    }

    private static void weeps(String text, int want) {
        TearPost x = post();
        Checks.rule(x, text);
        due("what one weeps by '" + text + "'", want, x.asks(0, -1, WEEPS));
    }

    private static void laughs(String text, int want) {
        TearPost x = post();
        Checks.rule(x, text);
        due("whether one laughs by '" + text + "'", want, x.asks(0, -1, LAUGHS));
    }

    public static void main(String[] args) {
        withoutLaw();
        sums();
        broken();
        tests();
        words();
        kinds();
        force();
        CHECKS.close("LawTest");
    }

    private static void withoutLaw() {
        TearPost x = post();
        due("weeps", 34, x.asks(0, -1, WEEPS));
        due("laughs", 0, x.asks(0, -1, LAUGHS));
        due("tires", 5, x.asks(0, -1, TIRES));
        due("bars", 0, x.asks(0, -1, BARS));
        due("weeps of the other", 14, x.asks(1, -1, WEEPS));
        due("laughs at the other", 1, x.asks(1, -1, LAUGHS));
        due("tires by the other, cut", 2, x.asks(1, -1, TIRES));
        due("weeps of two", 54, x.asks(0, 1, WEEPS));
        due("laughs at two: 16 against 15", 1, x.asks(0, 1, LAUGHS));
        due("tires by two", 7, x.asks(1, 0, TIRES));
        due("of one that is read", 0, x.asks(3, -1, WEEPS));
        due("of one that is read, with one that is not", 38, x.asks(3, 0, WEEPS));
        due("of another reader", -1, x.asks(0, 2, WEEPS));
        due("of the same one", -1, x.asks(0, 0, WEEPS));
        due("of no such", -1, x.asks(5, -1, WEEPS));
        due("of no such other", -1, x.asks(0, 5, WEEPS));
        due("of other -2", -1, x.asks(0, -2, WEEPS));
        due("what 4", -1, x.asks(0, -1, 4));
        due("what -1", -1, x.asks(0, -1, -1));
        x.tire(1, 41);
        due("never below 0", 0, x.asks(0, -1, WEEPS));
        due("grief alike joke is no laugh", 0, x.asks(2, -1, LAUGHS));
        due("rests(1)", 3, x.rests(1));
        due("rests(2)", -1, x.rests(2));
        due("rests(-1)", -1, x.rests(-1));
    }

    private static void sums() {
        weeps("weeps 2+3*4", 14);
        weeps("weeps [2+3]*4", 20);
        weeps("weeps 20-5-4", 11);
        weeps("weeps 100/7/2", 7);
        weeps("weeps 100%7*3", 6);
        weeps("weeps 50+[0-7]/2", 47);
        weeps("weeps 50+[0-7]%2", 49);
        weeps("weeps 50+7%[0-2]", 51);
        weeps("weeps 50-7/[0-2]", 53);
        weeps("weeps 5-6", 0);
        weeps("weeps 999", 999);
        weeps("weeps 1000", 999);
        weeps("weeps 1000*1000", 999);
    }

    private static void broken() {
        weeps("weeps 1000*1000*1000", 999);
        weeps("weeps 1000*1000*1000+1", 34);
        weeps("weeps 0-1000*1000*1000", 0);
        weeps("weeps 0-1000*1000*1000-1", 34);
        weeps("weeps 1000*1000*1000*1000/1000/1000", 34);
        weeps("weeps [1000*1000*1000*2-1000*1000*1000]/1000", 34);
        weeps("weeps 1/0", 34);
        weeps("weeps 1%0", 34);
        weeps("weeps 0/[tired-6]", 34);
        weeps("weeps 7;weeps 1/0", 7);
        weeps("weeps 7;weeps 8 if 1/0=1", 7);
        weeps("weeps 7;weeps 8 if 1=1/0", 7);
        weeps("weeps 7;weeps 8 if not 1/0=1", 7);
        weeps("weeps 7;weeps 8 if 1=1 or 1/0=1", 8);
        weeps("weeps 7;weeps 8 if 1=2 or 1/0=1", 7);
        weeps("weeps 7;weeps 8 if 1/0=1 or 1=1", 7);
        weeps("weeps 7;weeps 8 if not (1=2 and 1/0=1)", 8);
        weeps("weeps 7;weeps 8 if not (1=1 and 1/0=1)", 7);
        weeps("weeps 7;weeps 8 if not (1/0=1 and 1=2)", 7);
        weeps("weeps 7;weeps 8 if 1=2 and 1/0=1 or 1=1", 8);
        weeps("weeps 7;weeps 8 if (1=1 or 1/0=1) and 2=2", 8);
    }

    private static void tests() {
        laughs("laughs if 1<2", 1);
        laughs("laughs if 2<1", 0);
        laughs("laughs if 1<1", 0);
        laughs("laughs if 2>1", 1);
        laughs("laughs if 1>1", 0);
        laughs("laughs if 1=1", 1);
        laughs("laughs if 1+1=2*1", 1);
        laughs("laughs if 1=1 or 1=1 and 1=2", 1);
        laughs("laughs if (1=1 or 1=1) and 1=2", 0);
        laughs("laughs if not 1=1 or 1=1", 1);
        laughs("laughs if not (1=1 or 1=1)", 0);
        laughs("laughs if not not 1=1", 1);
        laughs("laughs if 1=2 or 1=2 or 1=1", 1);
        laughs("laughs if 1=1 and 1=1 and 1=2", 0);
        laughs("laughs if 1=2 and 1=1 or 1=2 and 1=1", 0);
        laughs("laughs if 1=2 or 1=1 and not 1=2", 1);
    }

    private static void words() {
        weeps("weeps reader", 1);
        weeps("weeps soft", 4);
        weeps("weeps tired", 6);
        weeps("weeps had", 2);
        weeps("weeps grief", 10);
        weeps("weeps joke", 7);
        weeps("weeps weight", 3);
        weeps("weeps with", 1);
        weeps("weeps day", 77);
        weeps("weeps mood", 8);
        TearPost x = post();
        Checks.rule(x, "weeps grief*100+joke*10;tires weight*with;bars if with=2;rests 10+grief+joke*2+weight*2+with*2+had");
        due("grief and joke of two", 999, x.asks(0, 1, WEEPS));
        due("weight and with of two", 22, x.asks(0, 1, TIRES));
        due("barred by two", 1, x.asks(0, 1, BARS));
        due("not by one", 0, x.asks(0, -1, BARS));
        due("rests: grief, joke, weight, with are -1", 10 - 1 - 2 - 2 - 2 + 2, x.rests(1));
        due("rests of another", 10 - 7, x.rests(0));
    }

    private static void kinds() {
        weeps("weeps 1;weeps 2;weeps 3 if 1=2", 2);
        weeps("weeps 1;laughs", 1);
        weeps("laughs", 34);
        weeps("weeps 5 if 1=2", 34);
        laughs("laughs if 1=2;laughs;laughs if 1=2", 1);
        laughs("weeps 1", 0);
        TearPost x = post();
        Checks.rule(x, "weeps 1");
        due("a law without laughs: joke above grief", 1, x.asks(1, -1, LAUGHS));
        Checks.rule(x, "laughs if 1=2");
        due("a law with laughs that does not hold", 0, x.asks(1, -1, LAUGHS));
        Checks.rule(x, "laughs if 1=1/0");
        due("a law with laughs that is broken", 0, x.asks(1, -1, LAUGHS));
        Checks.rule(x, "tires 1000;rests 100;bars if 1=1/0;bars if 2=2;bars if 1=2");
        due("tires 99 at most", 99, x.asks(0, -1, TIRES));
        due("rests 99 at most", 99, x.rests(1));
        due("bars, if one of them holds", 1, x.asks(0, -1, BARS));
        Checks.rule(x, "tires 0-5;rests 0-5");
        due("tires 0 at least", 0, x.asks(0, -1, TIRES));
        due("rests 0 at least", 0, x.rests(1));
        Checks.rule(x, "tires 4 if grief=10;tires 9 if 1=2;rests 7 if reader=0;bars if weight=8");
        due("tires", 4, x.asks(0, -1, TIRES));
        due("tires without", 2, x.asks(1, -1, TIRES));
        due("rests", 7, x.rests(0));
        due("rests without", 3, x.rests(1));
        due("bars", 1, x.asks(1, -1, BARS));
    }

    private static void force() {
        TearPost x = post();
        due("force(-1)", -1, x.force(-1));
        due("force(0) of no laws", -2, x.force(0));
        due("force(-2)", -2, x.force(-2));
        Checks.law(x, "weeps 1");
        Checks.law(x, "weeps 2");
        due("no law is in force by being made", -1, x.count(12));
        due("weeps", 34, x.asks(0, -1, WEEPS));
        due("force(1)", -1, x.force(1));
        due("weeps", 2, x.asks(0, -1, WEEPS));
        due("force(0)", 1, x.force(0));
        due("weeps", 1, x.asks(0, -1, WEEPS));
        due("force(2)", -2, x.force(2));
        due("count(12)", 0, x.count(12));
        due("force(-1)", 0, x.force(-1));
        due("weeps", 34, x.asks(0, -1, WEEPS));
    }
}
