/** Promises 15 and 17: ORDERS, which are run wholly or not at all. */
public final class OrdersTest {
    private static final Checks CHECKS = new Checks();

    private static void due(String call, long want, long got) {
        CHECKS.due(call, want, got);
    }

    /** Reader 0: soft 3, reader 1: hard; letters 0 to 3 of grief 10, 8, 6, 4 for 0, letter 4 for 1. */
    private static TearPost post() {
        TearPost x = new TearPost();
        x.reader(3, 0);
        x.reader(0, 0);
        for (int k = 0; k < 4; k++) {
            x.letter(10 - 2 * k, 0, 1 + k, 0, 0);
        }
        x.letter(4, 0, 1, 1, 0);
        return x;
    }

    private static void run(String text, int want, int stopped, int day, int office) {
        TearPost x = post();
        due("orders() of '" + text + "'", want, Checks.orders(x, text));
        due("stopped()", stopped, x.stopped());
        due("day behind '" + text + "'", day, x.count(14));
        due("office behind '" + text + "'", office, x.count(13));
        due("count(5)", want < 0 ? 0 : Math.min(16, want), x.count(5));
    }

    public static void main(String[] args) {
        plainOnes();
        words();
        whatCannotBe();
        undoingOrders();
        stoppedAt();
        CHECKS.close("OrdersTest");
    }

    private static void plainOnes() {
        run("pass", 1, -1, 1, 0);
        run("hand 0", 1, -1, 0, 30);
        run("hand 0 with 1", 1, -1, 0, 54);
        run("pass times 20;pass times 3", 23, -1, 23, 0);
        run("pass times 20 if day<5", 5, -1, 5, 0);
        run("hand done times 3", 3, -1, 0, 30 + 24 - 5 + 18 - 9);
        run("hand 0 if 1=2", 0, -1, 0, 0);
        run("hand 0 if 1/0=1", 0, -1, 0, 0);
        run("hand 9 if 1=2;pass", 1, -1, 1, 0);
        run("hand 1/0 if 1=2;pass", 1, -1, 1, 0);
        run("pass;" + "hand 0;pass;hand 1", 4, -1, 2, 30 + 24 - 2);
    }

    private static void words() {
        run("pass if day=0;pass if day=1;pass if day=1", 2, -1, 2, 0);
        run("pass if letters=5;pass if letters=4", 1, -1, 1, 0);
        run("hand 0;pass if office=30;pass if office=0", 2, -1, 1, 30);
        run("pass if done=0;pass if done=1;pass if done=1", 2, -1, 2, 0);
        run("pass if paid=0-1;hand 0;pass if paid=30;pass if paid=0-1", 3, -1, 2, 30);
        run("hand 4;pass if paid=0", 2, -1, 1, 0);
        run("hand 0;pass if tired 0=5;pass if tired 0=5", 2, -1, 1, 30);
        run("pass if tired 2=0-1 and owed 7=0-1;pass if tired 1=0", 2, -1, 2, 0);
        run("hand 4;pass if owed 1=1;pass if owed 0=0", 3, -1, 2, 0);
        run("hand 0 with 1;pass if paid=54", 2, -1, 1, 54);
        TearPost x = post();
        x.hand(0, -1);
        due("paid is of this text alone", 1, Checks.orders(x, "pass if paid=0-1;pass if paid=30"));
        due("done is, too", 1, Checks.orders(x, "pass if done=0"));
    }

    private static void whatCannotBe() {
        run("hand 5", -3, 0, 0, 0);
        run("hand 0-1", -3, 0, 0, 0);
        run("hand 0 with 5", -3, 0, 0, 0);
        run("hand 0 with 0-1", -3, 0, 0, 0);
        run("hand 0 with 0-2", -3, 0, 0, 0);
        run("pass;hand 0 with paid", -3, 1, 0, 0);
        run("hand 0;hand 1 with tired 7", -3, 1, 0, 0);
        run("hand 0 with 0-1 if 1=2;pass", 1, -1, 1, 0);
        run("hand 0 with 0", -3, 0, 0, 0);
        run("hand 0 with 4", -3, 0, 0, 0);
        run("pass;hand 0;hand 0", -3, 2, 0, 0);
        run("pass;hand 0 times 2", -3, 1, 0, 0);
        run("pass;hand 1/done;hand 1/[done-2]", -3, 2, 0, 0);
        run("hand 1 with 2%0", -3, 0, 0, 0);
        TearPost x = post();
        x.terms(0, 990);
        x.tire(0, 50);
        due("pass() behind 999", -3, Checks.orders(x, "hand 4;pass times 20"));
        due("day", 990, x.count(14));
        due("tired", 50, x.of(0, 2));
        due("owed", 0, x.of(1, 4));
        due("had", 0, x.of(1, 3));
        due("held", 0, x.at(4, 5));
        due("count(9): the orders() alone", 1, x.count(9));
        due("status()", -3, x.status());
        due("fault()", -1, x.fault());
        due("nine days can be", 9, Checks.orders(x, "pass times 20 if day<999"));
        Checks.rule(x, "bars");
        due("barred", -3, Checks.orders(x, "hand 0"));
    }

    private static void undoingOrders() {
        TearPost x = post();
        x.hand(0, -1);
        due("orders()", 3, Checks.orders(x, "hand 1;pass;hand 2"));
        due("undo()", 0, x.undo());
        due("undo()", 2, x.undo());
        due("undo()", 0, x.undo());
        due("letter 1 is held", 0, x.at(1, 5));
        due("letter 0 is read", 1, x.at(0, 5));
        for (int k = 0; k < 15; k++) {
            x.pass();
        }
        due("orders() that can't be, behind 30 days", -3, Checks.orders(x, "pass times 20;pass times 10;hand 0"));
        due("count(5)", 16, x.count(5));
        for (int k = 0; k < 15; k++) {
            due("undo()", 2, x.undo());
            due("day", 14 - k, x.count(14));
        }
        due("undo() of what was ahead of them", 0, x.undo());
        due("letter 0 is held", 0, x.at(0, 5));
        due("undo()", -3, x.undo());
    }

    private static void stoppedAt() {
        TearPost x = post();
        Checks.orders(x, "pass;pass;hand 9");
        due("stopped()", 2, x.stopped());
        x.hand(9, 9);
        Checks.law(x, "x");
        due("stopped() is of orders() alone", 2, x.stopped());
        due("text that can't be", -6, Checks.orders(x, "pass;hand"));
        due("stopped() of it", -1, x.stopped());
        due("nothing was run", 0, x.count(14));
        Checks.orders(x, "hand 9");
        due("stopped()", 0, x.stopped());
        Checks.orders(x, "pass");
        due("stopped() of orders that were run", -1, x.stopped());
        due("orders() of an empty tape", -6, x.orders());
        due("fault()", 0, x.fault());
    }
}
