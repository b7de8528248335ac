import java.util.ArrayList;
import java.util.List;

/** All that can be asked of a post, so that two posts can be compared: each answer with its call. */
final class Looks {
    private final TearPost x;
    private final List<String> answers = new ArrayList<>();

    private Looks(TearPost x) {
        this.x = x;
    }

    /** A post with something of everything: three readers, one of them out of reach, letters, laws, an image. */
    static TearPost lived() {
        TearPost x = new TearPost();
        x.road(0, 1);
        x.road(1, 2);
        x.road(0, 2);
        x.reader(3, 1);
        x.reader(2, 2);
        x.reader(0, 7);
        x.letter(10, 2, 3, 0, 0);
        x.letter(12, 3, 2, 0, 1);
        x.letter(9, 0, 1, 1, 0);
        x.letter(5, 9, 4, 1, 1);
        x.letter(4, 0, 5, 2, 0);
        x.letter(8, 0, 9, 0, 0);
        Checks.law(x, "weeps grief*soft-tired;tires grief/3");
        Checks.rule(x, "weeps grief*soft+day;laughs if joke>8;rests 2+had;bars if weight=9");
        x.ledger(0, 71);
        x.terms(0, 5);
        x.terms(1, 12);
        x.terms(2, 3);
        x.image(0);
        x.season(7, 5);
        Checks.tape(x, 99, 0, 0, 0, 0);
        x.row();
        Checks.orders(x, "pass;hand 99");
        Checks.law(x, "bars;bars if 1");
        x.hand(0, -1);
        x.pass();
        x.onward(0, 1);
        // a letter and a blot
        Checks.tape(x, 7, 7, 7, 1, 1, 9);
        return x;
    }

    /** What differs first between two posts, but for what begins with one of some calls; empty if nothing does. */
    static String difference(TearPost one, TearPost other, String... but) {
        List<String> ofOne = new Looks(one).all();
        List<String> ofOther = new Looks(other).all();
        for (int k = 0; k < Math.min(ofOne.size(), ofOther.size()); k++) {
            boolean asked = true;
            for (String name : but) {
                asked &= !ofOne.get(k).startsWith(name);
            }
            if (asked && !ofOne.get(k).equals(ofOther.get(k))) {
                return ofOne.get(k) + " and " + ofOther.get(k);
            }
        }
        return ofOne.size() == ofOther.size() ? "" : "how many answers there are";
    }

    private void add(String call, int answer) {
        answers.add(call + " -> " + answer);
    }

    private List<String> all() {
        counted();
        people();
        onPaper();
        undone();
        theTape();
        theRest();
        return answers;
    }

    private void counted() {
        for (int what = 0; what <= 16; what++) {
            if (what < 7 || what > 11) {
                add("count(" + what + ")", x.count(what));
            }
        }
        add("fault()", x.fault());
        add("stopped()", x.stopped());
        add("blots()", x.blots());
    }

    private void people() {
        for (int r = 0; r <= Math.min(7, x.count(1)); r++) {
            for (int what = 0; what <= 6; what++) {
                add("of(" + r + ", " + what + ")", x.of(r, what));
            }
        }
        for (int k = 0; k <= Math.min(11, x.count(2)); k++) {
            for (int what = 0; what <= 6; what++) {
                add("at(" + k + ", " + what + ")", x.at(k, what));
            }
        }
    }

    private void onPaper() {
        for (int k = 0; k < Math.min(4, x.count(2)); k++) {
            for (int what = 0; what <= 3; what++) {
                add("asks(" + k + ", -1, " + what + ")", x.asks(k, -1, what));
            }
            add("inside(" + k + ", 35, -1)", x.inside(k, 35, -1));
        }
        for (int r = 0; r < Math.min(4, x.count(1)); r++) {
            add("rests(" + r + ")", x.rests(r));
            add("way(" + r + ")", x.way(r));
            add("cut(" + r + ", 1)", x.cut(r, 1));
            add("order(" + r + ", -1)", x.order(r, -1));
            add("game(" + r + ", 0)", x.game(r, 0));
            for (int what = 0; what <= 2; what++) {
                add("drawn(" + r + ", " + what + ")", x.drawn(r, what));
            }
        }
        add("joked(-1)", x.joked(-1));
        add("joked(0)", x.joked(0));
        add("bags(10, 1)", x.bags(10, 1));
    }

    private void undone() {
        int many = x.count(5);
        for (int n = 0; n <= many; n++) {
            add("undo() " + n, x.undo());
            add("the day behind it", x.count(14));
            add("the office behind it", x.count(13));
        }
    }

    private void theTape() {
        add("row()", x.row());
        add("blots() of it", x.blots());
        add("of its last letter", x.at(x.count(2) - 1, 0));
    }

    private void theRest() {
        for (int k = 0; k < x.count(4); k++) {
            x.force(k);
            add("asks(1, -1, 0) by law " + k, x.asks(1, -1, 0));
        }
        for (int k = 0; k <= 1; k++) {
            add("back(" + k + ")", x.back(k));
            add("of(0, 2) behind it", x.of(0, 2));
            add("count(2) behind it", x.count(2));
            add("count(13) behind it", x.count(13));
        }
        int many = x.count(0);
        for (int n = 0; n <= many; n++) {
            add("mow()", x.mow());
            add("way(1) behind it", x.way(1));
        }
    }
}
