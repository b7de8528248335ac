/** Promises 30 to 32, sentence by sentence: the way, what must be cut, the bags. */
final class EdgesOfRoads {
    private final Sentences doc;

    EdgesOfRoads(Sentences doc) {
        this.doc = doc;
    }

    private void due(String call, long want, long got) {
        doc.due(call, want, got);
    }

    void all() {
        ways();
        shortWays();
        cuts();
        theLowestCut();
        cutsOfNoOne();
        weights();
        fewAndMany();
        noneHeavier();
        theFirstBag();
        heldAlone();
    }

    /** A reader in each town, 0 to 7. */
    private static TearPost everywhere() {
        TearPost x = new TearPost();
        for (int town = 0; town < 8; town++) {
            x.reader(1, town);
        }
        return x;
    }

    private void ways() {
        doc.says(30, "The WAY to a READER: how many ROADS. NONE (can't be reached).");
        TearPost x = everywhere();
        for (int reader : new int[] {-1, 8, Integer.MIN_VALUE, Integer.MAX_VALUE}) {
            due("way(" + reader + ") of eight", -1, x.way(reader));
        }
        for (int town = 0; town < 8; town++) {
            due("way(" + town + ") without roads", town == 0 ? 0 : -1, x.way(town));
        }
        for (int town = 1; town < 8; town++) {
            x.road(town - 1, town);
            due("way(" + town + ") along a line", town, x.way(town));
            due("way() beyond it", -1, x.way(town + 1));
            due("way(0)", 0, x.way(0));
        }
        for (int town = 7; town > 0; town--) {
            x.mow();
            due("way(" + town + ") with its road mown", -1, x.way(town));
            due("way(" + (town - 1) + ")", town - 1, x.way(town - 1));
        }
    }

    private void shortWays() {
        doc.says(30, "The WAY: the fewest ROADS to it.");
        TearPost x = everywhere();
        for (int town = 1; town < 8; town++) {
            x.road(town, town - 1);
        }
        int[][] roads = {{0, 7}, {7, 0}, {3, 0}, {5, 3}, {0, 6}};
        int[][] want = {{0, 1, 2, 3, 4, 3, 2, 1}, {0, 1, 2, 3, 4, 3, 2, 1}, {0, 1, 2, 1, 2, 3, 2, 1}, {0, 1, 2, 1, 2, 2, 2, 1},
            {0, 1, 2, 1, 2, 2, 1, 1}};
        for (int k = 0; k < roads.length; k++) {
            x.road(roads[k][0], roads[k][1]);
            for (int town = 0; town < 8; town++) {
                due("way(" + town + ") behind road " + (7 + k), want[k][town], x.way(town));
            }
        }
    }

    private void cuts() {
        doc.says(31, "To CUT a READER off: how many ROADS (what 0), which, as bits (1). NONE (TOWN 0).");
        TearPost x = everywhere();
        due("cut(0, 0): town 0", -1, x.cut(0, 0));
        due("cut(0, 1): town 0", -1, x.cut(0, 1));
        for (int town = 1; town < 8; town++) {
            due("cut(" + town + ", 0) without roads", 0, x.cut(town, 0));
            due("cut(" + town + ", 1) without roads", 0, x.cut(town, 1));
        }
        x.road(3, 4);
        due("cut(4, 0), no way there", 0, x.cut(4, 0));
        due("cut(4, 1), no way there", 0, x.cut(4, 1));
        x.road(0, 3);
        due("cut(4, 0), a line", 1, x.cut(4, 0));
        due("cut(4, 1), the lowest of two", 1, x.cut(4, 1));
        due("cut(3, 1), one alone", 2, x.cut(3, 1));
        due("cut(0, 0), town 0 with roads", -1, x.cut(0, 0));
        TearPost turned = new TearPost();
        for (int r = 0; r < 8; r++) {
            turned.reader(0, 7 - r);
            turned.road(7 - r, 0);
        }
        for (int r = 0; r < 8; r++) {
            due("cut(" + r + ", 0), town " + (7 - r), r == 7 ? -1 : 1, turned.cut(r, 0));
            due("cut(" + r + ", 1), town " + (7 - r), r == 7 ? -1 : 1 << r, turned.cut(r, 1));
            due("way(" + r + "), town " + (7 - r), r == 7 ? 0 : 1, turned.way(r));
        }
        for (int many = 1; many <= 12; many++) {
            TearPost y = everywhere();
            for (int k = 0; k < many; k++) {
                y.road(k % 2 == 0 ? 0 : 7, k % 2 == 0 ? 7 : 0);
            }
            due("cut(7, 0) of " + many + " alike", many, y.cut(7, 0));
            due("cut(7, 1) of " + many + " alike", (1 << many) - 1, y.cut(7, 1));
            due("cut(1, 0) of " + many + " that lead elsewhere", 0, y.cut(1, 0));
        }
        TearPost last = everywhere();
        for (int k = 0; k < 11; k++) {
            last.road(0, 1);
        }
        last.road(1, 2);
        due("cut(2, 0), the last road of twelve", 1, last.cut(2, 0));
        due("cut(2, 1), the last road of twelve", 1 << 11, last.cut(2, 1));
    }

    private void theLowestCut() {
        doc.says(31, "To CUT a READER off: the fewest ROADS without which that TOWN can't be reached from TOWN 0; the lowest as bits.");
        TearPost x = everywhere();
        int[][] roads = {{0, 1}, {0, 2}, {1, 3}, {2, 3}, {3, 4}, {3, 4}};
        for (int[] road : roads) {
            x.road(road[0], road[1]);
        }
        int[] fewest = {1, 1, 2, 2};
        int[] lowest = {0, 0, 3, 3};
        due("cut(1, 0): by 0 and by 2, 3", 2, x.cut(1, 0));
        due("cut(1, 1): 0 and 1 are lower than 0 and 2", 3, x.cut(1, 1));
        due("cut(2, 1)", 3, x.cut(2, 1));
        for (int town = 3; town <= 4; town++) {
            due("cut(" + town + ", 0)", fewest[town - 1], x.cut(town, 0));
            due("cut(" + town + ", 1)", lowest[town - 1], x.cut(town, 1));
        }
        x.road(0, 3);
        due("cut(4, 0): the two of its own", 2, x.cut(4, 0));
        due("cut(4, 1): 4 and 5", 16 + 32, x.cut(4, 1));
        due("cut(3, 0)", 3, x.cut(3, 0));
        due("cut(3, 1): 0, 1, 6", 1 + 2 + 64, x.cut(3, 1));
        x.road(4, 0);
        due("cut(4, 0): by 4, 5, 7", 3, x.cut(4, 0));
        due("cut(4, 1)", 16 + 32 + 128, x.cut(4, 1));
        due("cut(3, 0): by 0, 1, 6, 7", 4, x.cut(3, 0));
        due("cut(3, 1)", 1 + 2 + 64 + 128, x.cut(3, 1));
        due("nothing is cut", 8, x.count(0));
        due("way(4)", 1, x.way(4));
    }

    private void cutsOfNoOne() {
        doc.says(31, "how many ROADS (what 0), which, as bits (1). NONE (TOWN 0).");
        TearPost x = everywhere();
        x.road(0, 1);
        for (int reader : new int[] {-1, 8, Integer.MIN_VALUE, Integer.MAX_VALUE}) {
            due("cut(" + reader + ", 0)", -1, x.cut(reader, 0));
            due("cut(" + reader + ", 1)", -1, x.cut(reader, 1));
        }
        for (int what : new int[] {-1, 2, Integer.MIN_VALUE, Integer.MAX_VALUE}) {
            due("cut(1, " + what + ")", -1, x.cut(1, what));
            due("cut(0, " + what + ")", -1, x.cut(0, what));
        }
    }

    private void weights() {
        doc.says(32, "BAGS no heavier than 1 .. 99: how many (what 0), the first, as bits (1). NONE (one is heavier).");
        TearPost none = EdgesOfPost.withReaders(1);
        doc.range("bags(weight, 0) of no letters", 1, 99, 0, -1, weight -> none.bags(weight, 0));
        doc.range("bags(weight, 1) of no letters", 1, 99, 0, -1, weight -> none.bags(weight, 1));
        TearPost one = EdgesOfPost.withLetters(1);
        doc.range("bags(weight, 0) of one", 1, 99, 1, -1, weight -> one.bags(weight, 0));
        doc.range("bags(weight, 1) of one", 1, 99, 1, -1, weight -> one.bags(weight, 1));
        for (int what : new int[] {-1, 2, Integer.MIN_VALUE, Integer.MAX_VALUE}) {
            due("bags(9, " + what + ")", -1, one.bags(9, what));
        }
        for (int weight = 1; weight <= 9; weight++) {
            TearPost x = EdgesOfPost.withReaders(1);
            x.letter(0, 0, 1, 0, 0);
            x.letter(0, 0, weight, 0, 0);
            for (int bag = 1; bag <= 10; bag++) {
                int many = bag < weight ? -1 : bag < weight + 1 ? 2 : 1;
                due("bags(" + bag + ", 0) of 1 and " + weight, many, x.bags(bag, 0));
                due("bags(" + bag + ", 1) of 1 and " + weight, many == 1 ? 3 : many == 2 ? 1 : -1, x.bags(bag, 1));
            }
        }
    }

    private void fewAndMany() {
        doc.says(32, "BAGS: the fewest for all HELD LETTERS, none heavier than so much; the first one: the lowest as bits by which so few"
                + " do.");
        for (int many = 0; many <= 12; many++) {
            TearPost x = EdgesOfPost.withReaders(1);
            for (int k = 0; k < many; k++) {
                x.letter(0, 0, 9, 0, 0);
            }
            for (int each = 1; each <= 11; each++) {
                int fewest = (many + each - 1) / each;
                int rest = many - (fewest - 1) * each;
                due("bags of " + each + " nines for " + many, fewest, x.bags(9 * each, 0));
                due("the first of them", many == 0 ? 0 : (1 << Math.max(1, rest)) - 1, x.bags(9 * each, 1));
                due("bags of one less", each == 1 ? many == 0 ? 0 : -1 : (many + each - 2) / (each - 1), x.bags(9 * each - 1, 0));
            }
        }
        TearPost y = EdgesOfPost.withReaders(1);
        for (int k = 0; k < 12; k++) {
            y.letter(0, 0, k < 11 ? 8 : 9, 0, 0);
        }
        due("97 in one of 97", 1, y.bags(97, 0));
        due("97 in one of 97", 4095, y.bags(97, 1));
        due("97 in two of 96", 2, y.bags(96, 0));
        due("97 in two of 96: the lowest alone", 1, y.bags(96, 1));
    }

    private void noneHeavier() {
        doc.says(32, "NONE (one is heavier).");
        for (int place = 0; place < 12; place++) {
            TearPost x = EdgesOfPost.withReaders(1);
            for (int k = 0; k < 12; k++) {
                x.letter(0, 0, k == place ? 5 : 1, 0, 0);
            }
            due("bags(4, 0), letter " + place + " is 5", -1, x.bags(4, 0));
            due("bags(4, 1), letter " + place + " is 5", -1, x.bags(4, 1));
            due("bags(5, 0), letter " + place + " is 5", 4, x.bags(5, 0));
            x.hand(place, -1);
            due("bags(4, 0), letter " + place + " is read", 3, x.bags(4, 0));
        }
    }

    private void theFirstBag() {
        doc.says(32, "the first one: the lowest as bits by which so few do.");
        int[][] weights = {{5, 5, 4, 4, 3, 3}, {9, 1, 9, 1}, {6, 4, 6, 4}, {1, 9, 9, 1}, {3, 3, 3, 3, 3, 9}, {9, 8, 7, 2, 3}, {2, 2, 2, 6, 6}};
        int[] limits = {12, 10, 10, 10, 15, 10, 9};
        int[] many = {2, 2, 2, 2, 2, 3, 3};
        int[] first = {21, 3, 3, 3, 7, 1, 1};
        for (int k = 0; k < weights.length; k++) {
            TearPost x = EdgesOfPost.withReaders(1);
            int sum = 0;
            for (int weight : weights[k]) {
                x.letter(0, 0, weight, 0, 0);
                sum += weight;
            }
            due("bags(" + limits[k] + ", 0) of " + sum, many[k], x.bags(limits[k], 0));
            due("bags(" + limits[k] + ", 1) of " + sum, first[k], x.bags(limits[k], 1));
        }
    }

    private void heldAlone() {
        doc.says(32, "the fewest for all HELD LETTERS");
        TearPost x = EdgesOfPost.withReaders(2);
        for (int k = 0; k < 4; k++) {
            x.letter(20, 0, 3, k % 2, 0);
        }
        due("of both readers", 2, x.bags(6, 0));
        due("the first two", 3, x.bags(6, 1));
        x.hand(0, -1);
        due("three", 2, x.bags(6, 0));
        due("the lowest alone leaves two", 2, x.bags(6, 1));
        x.hand(2, -1);
        due("two", 1, x.bags(6, 0));
        due("those that are held", 10, x.bags(6, 1));
        x.onward(0, 1);
        due("one that was sent onward is held", 2, x.bags(6, 0));
        due("its bit", 1, x.bags(6, 1));
        x.undo();
        x.hand(1, 3);
        due("none", 0, x.bags(1, 0));
        due("none", 0, x.bags(1, 1));
    }
}
