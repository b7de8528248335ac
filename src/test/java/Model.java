import java.util.ArrayList;
import java.util.HashMap;
import java.util.List;
import java.util.Map;

/**
 * The document once more, in the plainest form that can be had: trees for texts, all orders, all sets, no memory of
 * what was found. Random runs compare TearPost with it, so it shares no code and, where it can, no way of working.
 */
final class Model {
    static final int NONE = -1;

    /** A SUM or TEST that is BROKEN. */
    static final class Broken extends Exception {
        private static final long serialVersionUID = 1L;
    }

    /** A TEXT that can't be, with the place. */
    static final class Fault extends Exception {
        private static final long serialVersionUID = 1L;
        final int place;

        Fault(int place) {
            this.place = place;
        }
    }

    /** A call that is REFUSED. */
    static final class Refused extends Exception {
        private static final long serialVersionUID = 1L;
        final int code;

        Refused(int code) {
            this.code = code;
        }
    }

    interface Value {
        long in(Map<String, Integer> words) throws Broken;
    }

    interface Test {
        boolean in(Map<String, Integer> words) throws Broken;
    }

    interface Call {
        int run() throws Refused;
    }

    static final class Clause {
        String kind;
        Value sum;
        Value with;
        Test test;
        int times = 1;

        boolean allowed(Map<String, Integer> words) {
            try {
                return test == null || test.in(words);
            } catch (Broken b) {
                return false;
            }
        }
    }

    static final class Reader {
        int soft, town, tired, had, owed, paid, ledger = NONE;

        Reader copy() {
            Reader r = new Reader();
            r.soft = soft;
            r.town = town;
            r.tired = tired;
            r.had = had;
            r.owed = owed;
            r.paid = paid;
            r.ledger = ledger;
            return r;
        }
    }

    static final class Letter {
        int grief, joke, weight, reader, sender, read, paid;

        Letter copy() {
            Letter l = new Letter();
            l.grief = grief;
            l.joke = joke;
            l.weight = weight;
            l.reader = reader;
            l.sender = sender;
            l.read = read;
            l.paid = paid;
            return l;
        }
    }

    static final class State {
        List<int[]> roads = new ArrayList<>();
        List<Reader> readers = new ArrayList<>();
        List<Letter> letters = new ArrayList<>();
        List<List<Clause>> laws = new ArrayList<>();
        int force = NONE;
        int day = 0;
        int ink = 10;
        int mood = 0;
        int office = 0;

        State copy() {
            State s = new State();
            s.roads.addAll(roads);
            for (Reader r : readers) {
                s.readers.add(r.copy());
            }
            for (Letter l : letters) {
                s.letters.add(l.copy());
            }
            s.laws.addAll(laws);
            s.force = force;
            s.day = day;
            s.ink = ink;
            s.mood = mood;
            s.office = office;
            return s;
        }

        boolean isReader(int r) {
            return r >= 0 && r < readers.size();
        }

        boolean isLetter(int l) {
            return l >= 0 && l < letters.size();
        }

        List<Clause> law() {
            return force == NONE ? new ArrayList<>() : laws.get(force);
        }

        Map<String, Integer> words(int reader, int grief, int joke, int weight, int with) {
            Reader r = readers.get(reader);
            Map<String, Integer> w = new HashMap<>();
            w.put("reader", reader);
            w.put("soft", r.soft);
            w.put("tired", r.tired);
            w.put("had", r.had);
            w.put("grief", grief);
            w.put("joke", joke);
            w.put("weight", weight);
            w.put("with", with);
            w.put("day", day);
            w.put("mood", mood);
            return w;
        }

        Map<String, Integer> words(int a, int b) {
            Letter l = letters.get(a);
            if (b == NONE) {
                return words(l.reader, l.grief, l.joke, l.weight, 1);
            }
            Letter o = letters.get(b);
            return words(l.reader, l.grief + o.grief, l.joke + o.joke, l.weight + o.weight, 2);
        }

        int told(String kind, Map<String, Integer> w, int most, int without) {
            int answer = without;
            for (Clause c : law()) {
                if (c.kind.equals(kind) && c.allowed(w)) {
                    try {
                        long v = c.sum.in(w);
                        answer = (int) (v < 0 ? 0 : v > most ? most : v);
                    } catch (Broken b) {
                        // it does not HOLD
                    }
                }
            }
            return answer;
        }

        int weeps(Map<String, Integer> w) {
            int plain = w.get("grief") * w.get("soft") - w.get("tired");
            return told("weeps", w, 999, plain < 0 ? 0 : plain);
        }

        int tires(Map<String, Integer> w) {
            return told("tires", w, 99, w.get("grief") / 2);
        }

        int rests(int reader) {
            return told("rests", words(reader, -1, -1, -1, -1), 99, 3);
        }

        boolean laughs(Map<String, Integer> w) {
            boolean told = false;
            boolean so = false;
            for (Clause c : law()) {
                if (c.kind.equals("laughs")) {
                    told = true;
                    so |= c.allowed(w);
                }
            }
            return told ? so : w.get("joke") > w.get("grief");
        }

        boolean barred(Map<String, Integer> w) {
            for (Clause c : law()) {
                if (c.kind.equals("bars") && c.allowed(w)) {
                    return true;
                }
            }
            return false;
        }

        int way(int town, int without) {
            int[] far = new int[8];
            java.util.Arrays.fill(far, NONE);
            far[0] = 0;
            List<Integer> queue = new ArrayList<>(List.of(0));
            while (!queue.isEmpty()) {
                int t = queue.remove(0);
                for (int k = 0; k < roads.size(); k++) {
                    if ((without & 1 << k) != 0) {
                        continue;
                    }
                    int[] road = roads.get(k);
                    for (int side = 0; side < 2; side++) {
                        if (road[side] == t && far[road[1 - side]] == NONE) {
                            far[road[1 - side]] = far[t] + 1;
                            queue.add(road[1 - side]);
                        }
                    }
                }
            }
            return far[town];
        }

        boolean can(int a, int b) {
            return way(readers.get(letters.get(a).reader).town, 0) != NONE && !barred(words(a, b));
        }

        int read(int a, int b) {
            Map<String, Integer> w = words(a, b);
            Letter l = letters.get(a);
            Reader r = readers.get(l.reader);
            boolean laughs = laughs(w);
            int paid = laughs ? 0 : weeps(w);
            int more = tires(w);
            if (!laughs && paid == 0) {
                r.owed++;
            }
            r.paid += paid;
            office += paid;
            r.had += b == NONE ? 1 : 2;
            r.tired = Math.min(999, r.tired + more);
            l.read = 1;
            l.paid = paid;
            if (b != NONE) {
                Letter o = letters.get(b);
                o.read = 1;
                l.paid = paid * l.weight / (l.weight + o.weight);
                o.paid = paid - l.paid;
            }
            return paid;
        }

        void dayGoesBy() {
            for (int r = 0; r < readers.size(); r++) {
                Reader x = readers.get(r);
                x.tired = Math.max(0, x.tired - rests(r));
            }
            day++;
        }

        List<Integer> heldFor(int reader) {
            List<Integer> held = new ArrayList<>();
            for (int k = 0; k < letters.size(); k++) {
                if (letters.get(k).read == 0 && (reader == NONE || letters.get(k).reader == reader)) {
                    held.add(k);
                }
            }
            return held;
        }
    }

    State s = new State();
    final State[] images = new State[2];
    /** What each call that can be undone changed: its kind, then the state ahead of it. */
    List<Object[]> undos = new ArrayList<>();
    List<Integer> tape = new ArrayList<>();
    final int[] refused = new int[5];
    int status = 0;
    int fault = NONE;
    int stopped = NONE;
    int blots = 0;
    int[][] drawn = new int[0][];

    private int call(Call c) {
        try {
            int answer = c.run();
            status = 0;
            return answer;
        } catch (Refused r) {
            status = r.code;
            refused[r.code == -1 ? 0 : r.code == -2 ? 1 : r.code == -3 ? 2 : r.code == -5 ? 3 : 4]++;
            return r.code;
        }
    }

    private static void need(boolean so, int code) throws Refused {
        if (!so) {
            throw new Refused(code);
        }
    }

    private static boolean in(int v, int least, int most) {
        return v >= least && v <= most;
    }

    public int road(int one, int other) {
        return call(() -> {
            need(in(one, 0, 7) && in(other, 0, 7) && one != other, -1);
            need(s.roads.size() < 12, -5);
            s.roads.add(new int[] {one, other});
            return s.roads.size() - 1;
        });
    }

    public int mow() {
        return call(() -> {
            need(!s.roads.isEmpty(), -3);
            s.roads.remove(s.roads.size() - 1);
            return s.roads.size();
        });
    }

    public int reader(int soft, int town) {
        return call(() -> {
            need(in(soft, 0, 9) && in(town, 0, 7), -1);
            need(s.readers.size() < 8, -5);
            Reader r = new Reader();
            r.soft = soft;
            r.town = town;
            s.readers.add(r);
            undos.clear();
            return s.readers.size() - 1;
        });
    }

    public int tire(int reader, int value) {
        return call(() -> {
            need(in(value, 0, 999), -1);
            need(s.isReader(reader), -2);
            int was = s.readers.get(reader).tired;
            s.readers.get(reader).tired = value;
            undos.clear();
            return was;
        });
    }

    public int of(int reader, int what) {
        if (!s.isReader(reader)) {
            return NONE;
        }
        Reader r = s.readers.get(reader);
        int[] all = {r.soft, r.town, r.tired, r.had, r.owed, r.paid, r.ledger};
        return in(what, 0, 6) ? all[what] : NONE;
    }

    private int newLetter(int grief, int joke, int weight, int reader, int sender) throws Refused {
        need(in(grief, 0, 30) && in(joke, 0, 30) && in(weight, 1, 9) && in(sender, 0, 1), -1);
        need(s.isReader(reader), -2);
        need(s.letters.size() < 12, -5);
        Letter l = new Letter();
        l.grief = grief;
        l.joke = joke;
        l.weight = weight;
        l.reader = reader;
        l.sender = sender;
        s.letters.add(l);
        return s.letters.size() - 1;
    }

    public int letter(int grief, int joke, int weight, int reader, int sender) {
        return call(() -> {
            int number = newLetter(grief, joke, weight, reader, sender);
            undos.clear();
            return number;
        });
    }

    public int at(int letter, int what) {
        if (!s.isLetter(letter)) {
            return NONE;
        }
        Letter l = s.letters.get(letter);
        int[] all = {l.grief, l.joke, l.weight, l.reader, l.sender, l.read, l.paid};
        return in(what, 0, 6) ? all[what] : NONE;
    }

    public int terms(int what, int value) {
        return call(() -> {
            need(what == 0 && in(value, 0, 999) || what == 1 && in(value, 1, 99) || what == 2 && in(value, 0, 9), -1);
            undos.clear();
            int was = what == 0 ? s.day : what == 1 ? s.ink : s.mood;
            if (what == 0) {
                s.day = value;
            } else if (what == 1) {
                s.ink = value;
            } else {
                s.mood = value;
            }
            return was;
        });
    }

    public int feed(int a, int b, int c, int d, int e) {
        if (tape.size() > 380) {
            return NONE;
        }
        for (int four : new int[] {a, b, c, d, e}) {
            tape.add(four >>> 24);
            tape.add(four >>> 16 & 255);
            tape.add(four >>> 8 & 255);
            tape.add(four & 255);
        }
        return tape.size();
    }

    public int end(int n) {
        if (n < 0 || n > tape.size()) {
            return NONE;
        }
        tape = new ArrayList<>(tape.subList(0, n));
        return n;
    }

    private List<Integer> takeTape() {
        List<Integer> taken = tape;
        tape = new ArrayList<>();
        return taken;
    }

    public int row() {
        return call(() -> {
            need(!tape.isEmpty(), -6);
            List<Integer> t = takeTape();
            undos.clear();
            int came = 0;
            blots = 0;
            while (!t.isEmpty()) {
                List<Integer> five = t.subList(0, Math.min(5, t.size()));
                try {
                    need(five.size() == 5, -6);
                    newLetter(five.get(0), five.get(1), five.get(2), five.get(3), five.get(4));
                    came++;
                } catch (Refused r) {
                    blots++;
                }
                t = t.subList(five.size(), t.size());
            }
            return came;
        });
    }

    public int blots() {
        return blots;
    }

    public int law() {
        return call(() -> {
            List<Integer> t = takeTape();
            need(s.laws.size() < 6, -5);
            s.laws.add(readText(t, true));
            return s.laws.size() - 1;
        });
    }

    private List<Clause> readText(List<Integer> t, boolean laws) throws Refused {
        try {
            List<Clause> clauses = new ModelText(t, laws).clauses();
            fault = NONE;
            return clauses;
        } catch (Fault f) {
            fault = f.place;
            throw new Refused(-6);
        }
    }

    public int orders() {
        return call(() -> {
            stopped = NONE;
            List<Clause> clauses = readText(takeTape(), false);
            State ahead = s.copy();
            List<Object[]> undosAhead = new ArrayList<>(undos);
            int done = 0;
            int paid = NONE;
            for (int c = 0; c < clauses.size(); c++) {
                Clause clause = clauses.get(c);
                try {
                    for (int n = 0; n < clause.times; n++) {
                        Map<String, Integer> w = orderWords(done, paid);
                        if (!clause.allowed(w)) {
                            continue;
                        }
                        if (clause.kind.equals("pass")) {
                            passNow();
                        } else {
                            int a = (int) clause.sum.in(w);
                            int b = clause.with == null ? NONE : (int) clause.with.in(w);
                            need(clause.with == null || s.isLetter(b), -2);
                            paid = handNow(a, b);
                        }
                        done++;
                    }
                } catch (Refused | Broken e) {
                    s = ahead;
                    undos = undosAhead;
                    stopped = c;
                    throw new Refused(-3);
                }
            }
            return done;
        });
    }

    private Map<String, Integer> orderWords(int done, int paid) {
        Map<String, Integer> w = new HashMap<>();
        w.put("day", s.day);
        w.put("letters", s.letters.size());
        w.put("office", s.office);
        w.put("done", done);
        w.put("paid", paid);
        for (int r = 0; r < 8; r++) {
            w.put("tired " + r, s.isReader(r) ? s.readers.get(r).tired : -1);
            w.put("owed " + r, s.isReader(r) ? s.readers.get(r).owed : -1);
        }
        return w;
    }

    public int fault() {
        return fault;
    }

    public int stopped() {
        return stopped;
    }

    public int force(int law) {
        return call(() -> {
            need(in(law, -1, s.laws.size() - 1), -2);
            int was = s.force;
            s.force = law;
            return was;
        });
    }

    private boolean together(int a, int b) {
        return b == NONE || s.isLetter(b) && a != b && s.letters.get(a).reader == s.letters.get(b).reader;
    }

    public int asks(int letter, int other, int what) {
        if (!s.isLetter(letter) || !together(letter, other)) {
            return NONE;
        }
        Map<String, Integer> w = s.words(letter, other);
        return what == 0 ? s.weeps(w) : what == 1 ? (s.laughs(w) ? 1 : 0) : what == 2 ? s.tires(w)
                : what == 3 ? (s.barred(w) ? 1 : 0) : NONE;
    }

    public int rests(int reader) {
        return s.isReader(reader) ? s.rests(reader) : NONE;
    }

    private void keep(int kind) {
        undos.add(new Object[] {kind, s.copy()});
        if (undos.size() > 16) {
            undos.remove(0);
        }
    }

    private int handNow(int a, int b) throws Refused {
        need(s.isLetter(a) && (b == NONE || s.isLetter(b)), -2);
        need(together(a, b) && s.letters.get(a).read == 0 && (b == NONE || s.letters.get(b).read == 0), -3);
        need(s.can(a, b), -3);
        keep(0);
        return s.read(a, b);
    }

    private int passNow() throws Refused {
        need(s.day < 999, -3);
        keep(2);
        s.dayGoesBy();
        return s.day;
    }

    public int hand(int letter, int other) {
        return call(() -> handNow(letter, other));
    }

    public int onward(int letter, int reader) {
        return call(() -> {
            need(s.isLetter(letter) && s.isReader(reader), -2);
            Letter l = s.letters.get(letter);
            need(l.read == 1 && l.paid >= s.ink && l.reader != reader, -3);
            keep(1);
            l.read = 0;
            l.paid = 0;
            l.reader = reader;
            l.grief = l.grief == 0 ? 0 : l.grief - 1;
            return l.grief;
        });
    }

    public int pass() {
        return call(this::passNow);
    }

    public int undo() {
        return call(() -> {
            need(!undos.isEmpty(), -3);
            Object[] last = undos.remove(undos.size() - 1);
            State was = (State) last[1];
            // only what hand(), onward(), pass() change goes back: roads, laws, ledgers stay
            for (int r = 0; r < s.readers.size(); r++) {
                Reader now = s.readers.get(r);
                Reader old = was.readers.get(r);
                now.tired = old.tired;
                now.had = old.had;
                now.owed = old.owed;
                now.paid = old.paid;
            }
            s.letters = was.letters;
            s.day = was.day;
            s.office = was.office;
            return (Integer) last[0];
        });
    }

    /** All orders of the rest, the lowest first: what the best one pays, with its letters behind it. */
    private static List<Integer> bestOrder(State now, List<Integer> rest, int reader) {
        if (rest.isEmpty()) {
            return new ArrayList<>(List.of(0));
        }
        List<Integer> best = null;
        for (int letter : rest) {
            State next = now.copy();
            if (next.barred(next.words(letter, NONE))) {
                continue;
            }
            int paid = next.read(letter, NONE);
            next.dayGoesBy();
            next.day = Math.min(999, next.day);
            List<Integer> others = new ArrayList<>(rest);
            others.remove((Integer) letter);
            List<Integer> behind = bestOrder(next, others, reader);
            if (behind != null && (best == null || paid + behind.get(0) > best.get(0))) {
                best = behind;
                best.set(0, paid + behind.get(0));
                best.add(1, letter);
            }
        }
        return best;
    }

    public int order(int reader, int i) {
        if (!s.isReader(reader) || s.heldFor(reader).size() > 8) {
            return NONE;
        }
        List<Integer> best = bestOrder(s, s.heldFor(reader), reader);
        return best == null || i < -1 || i >= best.size() - 1 ? NONE : best.get(i + 1);
    }

    /** How much more SENDER 0 is PAID, and the letter handed first. */
    private static int[] play(State now, List<Integer> rest, int turn) {
        int[] best = null;
        for (int who : new int[] {turn, 1 - turn}) {
            for (int letter : rest) {
                if (now.letters.get(letter).sender != who || now.barred(now.words(letter, NONE))) {
                    continue;
                }
                State next = now.copy();
                int paid = next.read(letter, NONE);
                List<Integer> others = new ArrayList<>(rest);
                others.remove((Integer) letter);
                int value = play(next, others, 1 - who)[0] + (who == 0 ? paid : -paid);
                if (best == null || (who == 0 ? value > best[0] : value < best[0])) {
                    best = new int[] {value, letter};
                }
            }
            if (best != null) {
                return best;
            }
        }
        return new int[] {0, NONE};
    }

    public int game(int reader, int what) {
        if (!s.isReader(reader) || s.heldFor(reader).size() > 8 || !in(what, 0, 1)) {
            return -1000000;
        }
        return play(s, s.heldFor(reader), 0)[what];
    }

    public int ledger(int reader, int value) {
        return call(() -> {
            need(in(value, -1, 99999), -1);
            need(s.isReader(reader), -2);
            int was = s.readers.get(reader).ledger;
            s.readers.get(reader).ledger = value;
            return was;
        });
    }

    public int joked(int i) {
        List<Integer> held = s.heldFor(NONE);
        int all = 0;
        for (int k : held) {
            all |= 1 << k;
        }
        List<Integer> sets = new ArrayList<>();
        for (int set = 0; set <= all; set++) {
            if ((set & ~all) != 0) {
                continue;
            }
            State p = s.copy();
            for (int k : held) {
                Letter l = p.letters.get(k);
                Reader r = p.readers.get(l.reader);
                Map<String, Integer> w = p.words(k, NONE);
                r.paid += (set & 1 << k) != 0 ? 0 : p.weeps(w);
                r.had++;
                r.tired = Math.min(999, r.tired + p.tires(w));
            }
            boolean so = true;
            for (Reader r : p.readers) {
                so &= r.ledger == NONE || r.ledger == r.paid;
            }
            if (so) {
                sets.add(set);
            }
        }
        return i == NONE ? sets.size() : in(i, 0, sets.size() - 1) ? sets.get(i) : NONE;
    }

    public int inside(int letter, int paid, int i) {
        if (!s.isLetter(letter)) {
            return NONE;
        }
        List<Integer> griefs = new ArrayList<>();
        for (int g = 0; g <= 30; g++) {
            State p = s.copy();
            p.letters.get(letter).grief = g;
            if (p.read(letter, NONE) == paid) {
                griefs.add(g);
            }
        }
        return i == NONE ? griefs.size() : in(i, 0, griefs.size() - 1) ? griefs.get(i) : NONE;
    }

    public int way(int reader) {
        return s.isReader(reader) ? s.way(s.readers.get(reader).town, 0) : NONE;
    }

    public int cut(int reader, int what) {
        if (!s.isReader(reader) || !in(what, 0, 1) || s.readers.get(reader).town == 0) {
            return NONE;
        }
        for (int size = 0; size <= s.roads.size(); size++) {
            for (int set = 0; set < 1 << s.roads.size(); set++) {
                if (Integer.bitCount(set) == size && s.way(s.readers.get(reader).town, set) == NONE) {
                    return what == 0 ? size : set;
                }
            }
        }
        throw new IllegalStateException("all roads cut, and still a way");
    }

    private int weight(int set) {
        int sum = 0;
        for (int k = 0; k < s.letters.size(); k++) {
            sum += (set & 1 << k) != 0 ? s.letters.get(k).weight : 0;
        }
        return sum;
    }

    private boolean fit(int set, int bags, int limit) {
        if (set == 0) {
            return true;
        }
        int low = Integer.lowestOneBit(set);
        if (bags == 0 || weight(set) > bags * limit) {
            return false;
        }
        for (int part = set; part > 0; part = part - 1 & set) {
            if ((part & low) != 0 && weight(part) <= limit && fit(set & ~part, bags - 1, limit)) {
                return true;
            }
        }
        return false;
    }

    public int bags(int weight, int what) {
        if (!in(weight, 1, 99) || !in(what, 0, 1)) {
            return NONE;
        }
        int all = 0;
        for (int k : s.heldFor(NONE)) {
            all |= 1 << k;
            if (s.letters.get(k).weight > weight) {
                return NONE;
            }
        }
        int fewest = 0;
        while (!fit(all, fewest, weight)) {
            fewest++;
        }
        if (what == 0 || fewest == 0) {
            return fewest;
        }
        int first = 1;
        while ((first & ~all) != 0 || weight(first) > weight || !fit(all & ~first, fewest - 1, weight)) {
            first++;
        }
        return first;
    }

    public int season(int seed, int n) {
        return call(() -> {
            need(in(seed, 0, 1000000) && in(n, 1, 60), -1);
            need(!s.letters.isEmpty(), -3);
            State p = s.copy();
            int[] paid = new int[8];
            int[] read = new int[8];
            long draw = seed;
            int sum = 0;
            for (int d = 0; d < n; d++) {
                draw = (draw * 1103 + 12345) % 1000003;
                int letter = (int) (draw % p.letters.size());
                if (p.can(letter, NONE)) {
                    int tears = p.read(letter, NONE);
                    paid[p.letters.get(letter).reader] += tears;
                    read[p.letters.get(letter).reader]++;
                    sum += tears;
                }
                if (p.day == 999) {
                    break;
                }
                p.dayGoesBy();
            }
            drawn = new int[p.readers.size()][];
            for (int r = 0; r < drawn.length; r++) {
                drawn[r] = new int[] {paid[r], read[r], p.readers.get(r).tired};
            }
            return sum;
        });
    }

    public int drawn(int reader, int what) {
        return in(reader, 0, drawn.length - 1) && in(what, 0, 2) ? drawn[reader][what] : NONE;
    }

    public int image(int k) {
        return call(() -> {
            need(in(k, 0, 1), -1);
            images[k] = s.copy();
            return 0;
        });
    }

    public int back(int k) {
        return call(() -> {
            need(in(k, 0, 1), -1);
            need(images[k] != null, -2);
            s = images[k].copy();
            undos.clear();
            return 0;
        });
    }

    public int count(int what) {
        int[] all = {s.roads.size(), s.readers.size(), s.letters.size(), s.heldFor(NONE).size(), s.laws.size(),
            undos.size(), tape.size(), refused[0], refused[1], refused[2], refused[3], refused[4], s.force, s.office,
            s.day, s.ink, s.mood};
        return in(what, 0, 16) ? all[what] : NONE;
    }

    public int status() {
        return status;
    }
}
