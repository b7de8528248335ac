/** Promises 10 to 13: the TAPE, and ROWS of letters. */
public final class TapeTest {
    private static final Checks CHECKS = new Checks();

    private static void due(String call, long want, long got) {
        CHECKS.due(call, want, got);
    }

    public static void main(String[] args) {
        feeding();
        rows();
        rowWithoutRoom();
        CHECKS.close("TapeTest");
    }

    private static void feeding() {
        TearPost x = new TearPost();
        for (int k = 1; k <= 20; k++) {
            due("feed() " + k, 20 * k, x.feed(-1, 0, 1, 2, 3));
        }
        due("feed() beyond 400", -1, x.feed(1, 2, 3, 4, 5));
        due("count(6)", 400, x.count(6));
        due("end(401)", -1, x.end(401));
        due("end(-1)", -1, x.end(-1));
        due("end(400)", 400, x.end(400));
        due("end(381)", 381, x.end(381));
        due("feed() of 20 onto 381", -1, x.feed(1, 2, 3, 4, 5));
        due("count(6)", 381, x.count(6));
        due("end(380)", 380, x.end(380));
        due("feed() of 20 onto 380", 400, x.feed(1, 2, 3, 4, 5));
        due("end(0)", 0, x.end(0));
        due("end(1)", -1, x.end(1));
    }

    private static void rows() {
        TearPost x = new TearPost();
        due("row() of an empty tape", -6, x.row());
        x.reader(1, 0);
        // the highest byte of each number comes first
        x.feed(0x1e1e0900, 0x01000001, 0x00000506, 0x07000102, 0x03040500);
        due("row()", 3, x.row());
        due("blots(): byte 5 is no sender, or no such reader", 1, x.blots());
        due("the tape is empty", 0, x.count(6));
        due("at(0, 0)", 30, x.at(0, 0));
        due("at(0, 1)", 30, x.at(0, 1));
        due("at(0, 2)", 9, x.at(0, 2));
        due("at(0, 4)", 1, x.at(0, 4));
        due("at(1, 2)", 1, x.at(1, 2));
        due("at(2, 0)", 5, x.at(2, 0));
        due("at(2, 2)", 7, x.at(2, 2));
        due("row() of an empty tape", -6, x.row());
        due("blots() of the latest that was not refused", 1, x.blots());
        Checks.tape(x, 1, 1, 1, 0);
        due("row() within which the tape ends", 0, x.row());
        due("blots()", 1, x.blots());
        due("status()", 0, x.status());
        Checks.tape(x, 31, 0, 1, 0, 0, 0, 31, 1, 0, 0, 0, 0, 10, 0, 0, 0, 0, 0, 0, 0, 0, 0, 1, 1, 0, 0, 0, 1, 0, 2,
                255, 0, 1, 0, 0, 0, 0, 1, 255, 0);
        due("row() of those that can't be", 0, x.row());
        due("blots()", 8, x.blots());
        Checks.tape(x, 1, 2, 3, 0, 1);
        due("row()", 1, x.row());
        due("blots()", 0, x.blots());
        x.hand(0, -1);
        due("count(5)", 1, x.count(5));
        x.row();
        due("a refused row() leaves what can be undone", 1, x.count(5));
        Checks.tape(x, 1);
        x.row();
        due("row() of a blot alone ends what can be undone", 0, x.count(5));
    }

    private static void rowWithoutRoom() {
        TearPost x = new TearPost();
        x.reader(1, 0);
        int[] bytes = new int[400];
        for (int k = 0; k < 400; k++) {
            bytes[k] = k % 5 == 2 ? 1 + k / 5 % 9 : 0;
        }
        Checks.tape(x, bytes);
        due("row() of 80", 12, x.row());
        due("blots()", 68, x.blots());
        due("at(11, 2)", 3, x.at(11, 2));
        due("count(2)", 12, x.count(2));
    }
}
