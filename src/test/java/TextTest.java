/** Promises 14 and 16: LAWS and ORDERS as texts, and where the FAULT is. */
public final class TextTest {
    private static final Checks CHECKS = new Checks();

    private static void due(String call, long want, long got) {
        CHECKS.due(call, want, got);
    }

    private static void faultOfLaw(String text, int place) {
        TearPost x = new TearPost();
        due("law() of '" + text + "'", place == -1 ? 0 : -6, Checks.law(x, text));
        due("fault() of '" + text + "'", place, x.fault());
        due("the tape behind it", 0, x.count(6));
        due("count(4)", place == -1 ? 1 : 0, x.count(4));
    }

    private static void faultOfOrders(String text, int place) {
        TearPost x = new TearPost();
        // nothing is run: only whether it can be read is asked
        int answer = Checks.orders(x, text);
        due("whether orders() of '" + text + "' is -6", place == -1 ? 0 : 1, answer == -6 ? 1 : 0);
        due("fault() of '" + text + "'", place, x.fault());
        due("the tape behind it", 0, x.count(6));
    }

    public static void main(String[] args) {
        lawClauses();
        tests();
        sums();
        limits();
        orderClauses();
        room();
        CHECKS.close("TextTest");
    }

    private static void lawClauses() {
        faultOfLaw("weeps 1", -1);
        faultOfLaw("  weeps   1  ", -1);
        faultOfLaw("weeps1if1=1", -1);
        faultOfLaw("tires tired;rests 3;laughs;bars;weeps mood", -1);
        faultOfLaw("laughs if joke>grief;bars if weight>5", -1);
        faultOfLaw("weeps reader+soft+tired+had+grief+joke+weight+with+day+mood", -1);
        faultOfLaw("", 0);
        faultOfLaw("    ", 4);
        faultOfLaw("weeps", 5);
        faultOfLaw("weeps  ", 7);
        faultOfLaw(";", 0);
        faultOfLaw("laughs;", 7);
        faultOfLaw("laughs;;bars", 7);
        faultOfLaw("laughs bars", 7);
        faultOfLaw("laughs 1", 7);
        faultOfLaw("bars 1=1", 5);
        faultOfLaw("Weeps 1", 0);
        faultOfLaw("weepsgrief", 0);
        faultOfLaw("laughsz", 0);
        faultOfLaw("alaughs", 0);
        faultOfLaw("laughs{", 6);
        faultOfLaw("laughs`", 6);
        faultOfLaw("laughs of 1=1", 7);
        faultOfLaw("meeps 1", 0);
        faultOfLaw("weeps 1:", 7);
        faultOfLaw("weeps 9/09", -1);
        faultOfLaw("weeps grief soft", 12);
        faultOfLaw("weeps letters", 6);
        faultOfLaw("weeps if 1=1", 6);
        faultOfLaw("weeps 1 if", 10);
        faultOfLaw("weeps 1 if 1", 12);
        faultOfLaw("weeps 1 times 2", 8);
        faultOfLaw("hand 1", 0);
        faultOfLaw("laughs\t", 6);
        faultOfLaw("laughs" + (char) 233, 6);
        faultOfLaw("laughs" + (char) 0, 6);
    }

    private static void tests() {
        faultOfLaw("laughs if 1=1 or 2=2 and not 3=3", -1);
        faultOfLaw("laughs if (1=1 or 2=2) and (3=3)", -1);
        faultOfLaw("laughs if not not not 1=1", -1);
        faultOfLaw("laughs if not(1=1)", -1);
        faultOfLaw("laughs if (1)=1", 12);
        faultOfLaw("laughs if 1", 11);
        faultOfLaw("laughs if 1==1", 12);
        faultOfLaw("laughs if 1=1=1", 13);
        faultOfLaw("laughs if 1=1 or", 16);
        faultOfLaw("laughs if or 1=1", 10);
        faultOfLaw("laughs if 1=1 not 2=2", 14);
        faultOfLaw("laughs if (1=1", 14);
        faultOfLaw("laughs if (1=1]", 14);
        faultOfLaw("laughs if 1=1)", 13);
        faultOfLaw("laughs if [1=1]", 12);
        faultOfLaw("laughs if ()", 11);
        faultOfLaw("laughs if (1=1) + 2 = 3", 16);
        faultOfLaw("laughs if 1!1", 11);
    }

    private static void sums() {
        faultOfLaw("weeps [1+2]*3/4%5-6", -1);
        faultOfLaw("weeps 1000", -1);
        faultOfLaw("weeps 0001000", -1);
        faultOfLaw("weeps 1001", 6);
        faultOfLaw("weeps 99999999999999999999999", 6);
        faultOfLaw("weeps -1", 6);
        faultOfLaw("weeps 1+", 8);
        faultOfLaw("weeps 1+*2", 8);
        faultOfLaw("weeps [1", 8);
        faultOfLaw("weeps []", 7);
        faultOfLaw("weeps [1)", 8);
        faultOfLaw("weeps (1)", 6);
        faultOfLaw("weeps 1]", 7);
        faultOfLaw("weeps 12a", 8);
        faultOfLaw("weeps grief2", 11);
        faultOfLaw("weeps 1 2", 8);
    }

    private static void limits() {
        faultOfLaw(Checks.times(12, "laughs", ";"), -1);
        faultOfLaw(Checks.times(13, "laughs", ";"), 12 * 7);
        faultOfLaw(Checks.times(12, "laughs", ";") + ";", 12 * 7);
        faultOfLaw(Checks.times(12, "laughs", ";") + "; x", 12 * 7 + 1);
        faultOfLaw("weeps " + Checks.times(50, "1", "+"), -1);
        faultOfLaw("weeps " + Checks.times(51, "1", "+"), 6 + 100);
        faultOfLaw("weeps " + Checks.times(50, "1", "+") + "+[had", 6 + 101);
        faultOfLaw("weeps " + Checks.times(49, "1", "+") + ";laughs if 1=1", 6 + 97 + 1 + 10 + 2);
        faultOfLaw("weeps " + Checks.times(48, "1", "+") + ";laughs if 1=1", -1);
        faultOfLaw("weeps [[[[[[[[1]]]]]]]]", -1);
        faultOfLaw("weeps [[[[[[[[[1]]]]]]]]]", 14);
        faultOfLaw("weeps [[[[[[[[1]]]]]]]]+[[[[[[[[1]]]]]]]]", -1);
        faultOfLaw("bars if ((((((((1=1))))))))", -1);
        faultOfLaw("bars if (((((((((1=1)))))))))", 16);
        faultOfLaw("bars if ((((((([1]=1)))))))", -1);
        faultOfLaw("bars if (((((((([1]=1))))))))", 16);
        faultOfLaw("bars if " + Checks.times(90, "not", " ") + " 1=1", -1);
        String longest = "weeps 1" + Checks.times(393, " ", "");
        faultOfLaw(longest, -1);
        faultOfLaw(longest.substring(0, 398) + "+ ", 400);
    }

    private static void orderClauses() {
        faultOfOrders("pass", -1);
        faultOfOrders("pass times 20 if day<999", -1);
        faultOfOrders("hand 0 with 1 times 2 if 1=2", -1);
        faultOfOrders("hand day+letters+office+done+paid+tired 7+owed 0 if 1=2", -1);
        faultOfOrders("hand tired7 if 1=2", -1);
        faultOfOrders("hand tired 007 if 1=2", -1);
        faultOfOrders("", 0);
        faultOfOrders("   ", 3);
        faultOfOrders("pass;", 5);
        faultOfOrders("hand", 4);
        faultOfOrders("hand with 1", 5);
        faultOfOrders("hand grief", 5);
        faultOfOrders("hand tired", 10);
        faultOfOrders("hand tired 8", 11);
        faultOfOrders("hand tired day", 11);
        faultOfOrders("hand owed+1", 9);
        faultOfOrders("hand 1 with", 11);
        faultOfOrders("pass with 1", 5);
        faultOfOrders("pass times", 10);
        faultOfOrders("pass times 0", 11);
        faultOfOrders("pass times 21", 11);
        faultOfOrders("pass times 1+1", 12);
        faultOfOrders("pass times day", 11);
        faultOfOrders("pass if 1=1 times 2", 12);
        faultOfOrders("hand 1 times 2 with 3", 15);
        faultOfOrders("pass times 2 times 2", 13);
        faultOfOrders("weeps 1", 0);
        faultOfOrders("onward 1", 0);
        faultOfOrders(Checks.times(12, "pass", ";"), -1);
        faultOfOrders(Checks.times(13, "pass", ";"), 60);
        // R and TIMES are no PARTS of the fifty
        faultOfOrders("pass times 1;hand " + Checks.times(25, "tired 1", "+") + " if 1=2", -1);
        faultOfOrders("pass times 1;hand " + Checks.times(48, "day", "+") + " if 1=2", -1);
        faultOfOrders("pass times 1;hand " + Checks.times(49, "day", "+") + " if 1=2", 18 + 49 * 4 - 1 + 6);
    }

    private static void room() {
        TearPost x = new TearPost();
        Checks.law(x, "x");
        due("fault()", 0, x.fault());
        for (int k = 0; k < 6; k++) {
            due("law " + k, k, Checks.law(x, "laughs"));
            due("fault()", -1, x.fault());
        }
        Checks.orders(x, "pass;x");
        due("fault() of orders()", 5, x.fault());
        due("a 7th law, ahead of reading it", -5, Checks.law(x, "   x"));
        due("fault() of the latest that read a text", 5, x.fault());
        due("the tape is empty", 0, x.count(6));
        due("a 7th law of an empty tape", -5, x.law());
        due("count(4)", 6, x.count(4));
        due("count(10)", 2, x.count(10));
        Checks.orders(x, "pass");
        due("fault() of orders() that could be read", -1, x.fault());
    }
}
