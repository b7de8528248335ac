/** Promises 30 to 32: the way, what must be cut, the bags. */
public final class RoadsTest {
    private static final Checks CHECKS = new Checks();

    private static void due(String call, long want, long got) {
        CHECKS.due(call, want, got);
    }

    public static void main(String[] args) {
        ways();
        cuts();
        bags();
        bagsOfMany();
        CHECKS.close("RoadsTest");
    }

    private static void ways() {
        TearPost x = new TearPost();
        due("no reader", -1, x.way(0));
        for (int town = 0; town < 8; town++) {
            x.reader(1, town);
        }
        due("town 0", 0, x.way(0));
        due("no road", -1, x.way(7));
        for (int town = 7; town > 0; town--) {
            x.road(town, town - 1);
        }
        for (int town = 0; town < 8; town++) {
            due("way along the line", town, x.way(town));
        }
        due("reader 8", -1, x.way(8));
        due("reader -1", -1, x.way(-1));
        x.road(0, 6);
        due("a short way", 2, x.way(7));
        due("a short way back", 2, x.way(5));
        x.mow();
        due("mown", 7, x.way(7));
        x.mow();
        due("mown", -1, x.way(1));
    }

    private static void cuts() {
        TearPost x = new TearPost();
        due("no reader", -1, x.cut(0, 0));
        x.reader(1, 0);
        x.reader(1, 3);
        due("town 0", -1, x.cut(0, 0));
        due("town 0", -1, x.cut(0, 1));
        due("cut off without roads", 0, x.cut(1, 0));
        due("cut off without roads", 0, x.cut(1, 1));
        x.road(4, 3);
        due("cut off already", 0, x.cut(1, 0));
        x.road(0, 1);
        x.road(1, 3);
        due("a line", 1, x.cut(1, 0));
        due("the lowest", 2, x.cut(1, 1));
        x.road(3, 2);
        x.road(2, 0);
        due("a ring", 2, x.cut(1, 0));
        due("the lowest: roads 1, 3", 10, x.cut(1, 1));
        x.road(0, 1);
        due("the lowest: roads 2, 3", 12, x.cut(1, 1));
        x.road(3, 0);
        due("three", 3, x.cut(1, 0));
        due("three: 2, 3, 6", 76, x.cut(1, 1));
        due("what 2", -1, x.cut(1, 2));
        due("what -1", -1, x.cut(1, -1));
        due("reader 2", -1, x.cut(2, 0));
        due("reader -1", -1, x.cut(-1, 0));
        TearPost y = new TearPost();
        y.reader(1, 7);
        for (int k = 0; k < 12; k++) {
            y.road(k % 2 == 0 ? 0 : 7, k % 2 == 0 ? 7 : 0);
        }
        due("twelve alike", 12, y.cut(0, 0));
        due("twelve alike", 4095, y.cut(0, 1));
    }

    private static void bags() {
        TearPost x = new TearPost();
        due("nothing", 0, x.bags(1, 0));
        due("nothing", 0, x.bags(99, 1));
        x.reader(1, 0);
        int[] weights = {5, 4, 3, 9, 3, 2};
        for (int w : weights) {
            x.letter(1, 0, w, 0, 0);
        }
        due("one is heavier", -1, x.bags(8, 0));
        due("one is heavier", -1, x.bags(8, 1));
        due("26 in nines", 3, x.bags(9, 0));
        // the rest is 5 and 3 and 3 and 9 without {4, 3, 2}, and so on: {5, 4} leaves 3 3 2 and 9
        due("the first: letters 0, 1", 3, x.bags(9, 1));
        due("tens", 3, x.bags(10, 0));
        // {0} leaves 4 3 9 3 2: 9 alone, 12 in one; {0, 1} leaves 3 9 3 2
        due("the first of tens", 3, x.bags(10, 1));
        due("thirteens", 2, x.bags(13, 0));
        // lowest set of 13 whose rest is 13: 5 + 4 + 3 = 12; 9 + 4 = 13: letters 1, 3
        due("the first of thirteens", 10, x.bags(13, 1));
        due("all", 1, x.bags(26, 0));
        due("all", 63, x.bags(26, 1));
        due("weight 0", -1, x.bags(0, 0));
        due("weight 100", -1, x.bags(100, 0));
        due("what 2", -1, x.bags(9, 2));
        due("what -1", -1, x.bags(9, -1));
        x.hand(3, -1);
        due("without one that is read", 3, x.bags(6, 0));
        due("its bit is none", 1, x.bags(6, 1));
        due("eights", 3, x.bags(8, 0));
        due("nines", 2, x.bags(9, 0));
        due("one less in them: 5, 4 and 3, 3, 2", 3, x.bags(9, 1));
        due("nothing is too heavy now", 1, x.bags(99, 0));
        due("all that are held", 55, x.bags(99, 1));
    }

    private static void bagsOfMany() {
        TearPost x = new TearPost();
        x.reader(1, 0);
        for (int k = 0; k < 12; k++) {
            x.letter(1, 0, 5 + k % 2, 0, 0);
        }
        due("one a bag", 12, x.bags(9, 0));
        due("the first", 1, x.bags(9, 1));
        due("two fives, and the sixes alone", 9, x.bags(10, 0));
        due("the first of them: a six alone would do, a five alone not", 2, x.bags(10, 1));
        due("pairs", 6, x.bags(11, 0));
        due("the first pair", 3, x.bags(11, 1));
        due("of 99", 1, x.bags(99, 0));
        due("of 99", 4095, x.bags(99, 1));
    }
}
