import java.lang.reflect.InvocationTargetException;
import java.lang.reflect.Method;
import java.util.ArrayList;
import java.util.HashMap;
import java.util.List;
import java.util.Map;
import java.util.Random;

/** Random runs of calls, each answer compared with the Model's. The seeds are fixed: every run of it is the same. */
public final class RandomRunsTest {
    private static final int CALLS = 512;
    private static final Map<String, Method> OURS = methods(TearPost.class);
    private static final Map<String, Method> DUE = methods(Model.class);

    private final Random random;
    private final int seed;
    private final int mostLetters;
    private final TearPost post = new TearPost();
    private final Model model = new Model();
    private final List<String> log = new ArrayList<>();
    private int calls;

    private RandomRunsTest(int seed) {
        this.seed = seed;
        this.random = new Random(seed);
        // the Model tries all orders: runs with many letters for one reader are dear, so there are few of them
        this.mostLetters = seed % 25 == 0 ? 12 : 5;
    }

    private static Map<String, Method> methods(Class<?> type) {
        Map<String, Method> found = new HashMap<>();
        for (Method m : type.getDeclaredMethods()) {
            if (java.lang.reflect.Modifier.isPublic(m.getModifiers())) {
                found.put(m.getName(), m);
            }
        }
        return found;
    }

    public static void main(String[] args) {
        int first = args.length > 0 ? Integer.parseInt(args[0]) : 1;
        int last = args.length > 1 ? Integer.parseInt(args[1]) : 250;
        for (int seed = first; seed <= last; seed++) {
            new RandomRunsTest(seed).run();
            if (seed % 5 == 0) {
                new RandomRunsTest(seed).searchRun();
            }
        }
        System.out.println("random runs " + first + " to " + last + ": all answers are as due");
    }

    private void run() {
        if (seed % 5 != 1) {
            setUp();
        }
        while (calls < CALLS - 100) {
            step();
        }
        look();
    }

    /** Orders and games of seven letters, with laws by which all that was read matters, tired low and high. */
    private void searchRun() {
        call("reader", 1 + random.nextInt(9), 0);
        for (int n = 0; n < 7; n++) {
            call("letter", random.nextInt(31), random.nextInt(12), 1 + n, 0, random.nextInt(4) == 0 ? 0 : 1);
        }
        String[] tires = {"tires [tired*7+grief*13+1]%97", "tires 1+grief%3", "tires 99", "tires 1+weight%2+had%2"};
        String[] weeps = {"weeps [tired*31+weight*17+day]%101", "weeps 1000-tired", "weeps tired%7*grief", "weeps tired"};
        String[] bars = {"bars if tired%5=weight%5", "bars if had=0 and reader=0 and weight<4", "laughs if tired%3=joke%3",
            "bars if weight=1 and tired%2=0", "rests 99", "rests 0"};
        putOnTape(tires[random.nextInt(4)] + ";" + weeps[random.nextInt(4)] + ";" + bars[random.nextInt(6)]);
        call("law");
        call("force", 0);
        int[] starts = {0, random.nextInt(40), 500 + random.nextInt(500), 999};
        for (int tired : starts) {
            call("tire", 0, tired);
            call("order", 0, -1);
            call("order", 0, random.nextInt(7));
            call("game", 0, 0);
            call("game", 0, 1);
        }
    }

    /** Something to go on from: a run that begins with nothing is mostly refused. */
    private void setUp() {
        int readers = 1 + random.nextInt(4);
        for (int n = 0; n < readers; n++) {
            call("reader", random.nextInt(10), random.nextInt(3));
        }
        int roads = 2 + random.nextInt(seed % 7 == 0 ? 10 : 3);
        for (int n = 0; n < roads; n++) {
            int one = random.nextInt(seed % 7 == 0 ? 5 : 3);
            call("road", one, (one + 1 + random.nextInt(2)) % 8);
        }
        for (int n = 0; n < mostLetters; n++) {
            call("letter", random.nextInt(31), random.nextInt(20), 1 + random.nextInt(9), random.nextInt(readers),
                    random.nextInt(2));
        }
    }

    private int call(String name, Integer... args) {
        calls++;
        log.add(name + List.of(args));
        int got;
        int due;
        try {
            got = (Integer) OURS.get(name).invoke(post, (Object[]) args);
            due = (Integer) DUE.get(name).invoke(model, (Object[]) args);
        } catch (InvocationTargetException | IllegalAccessException e) {
            throw new IllegalStateException("seed " + seed + ": " + log, e);
        }
        if (got != due) {
            throw new IllegalStateException("seed " + seed + ": " + log + " answered " + got + ", due is " + due);
        }
        return got;
    }

    /** A number of a range, now and then one just outside it, or far away. */
    private int pick(int least, int most) {
        switch (random.nextInt(40)) {
            case 0:
                return least - 1;
            case 1:
                return most + 1;
            case 2:
                return random.nextInt();
            case 3:
                return least;
            case 4:
                return most;
            default:
                return least + random.nextInt(most - least + 1);
        }
    }

    private int someReader() {
        return pick(0, Math.max(0, model.s.readers.size() - 1));
    }

    private int someLetter() {
        return pick(0, Math.max(0, model.s.letters.size() - 1));
    }

    private int someOther() {
        return random.nextInt(2) == 0 ? -1 : someLetter();
    }

    private void step() {
        switch (random.nextInt(44)) {
            case 0: case 1:
                call("road", pick(0, 7), pick(0, 7));
                break;
            case 2:
                if (random.nextInt(4) == 0) {
                    call("mow");
                }
                break;
            case 3: case 4:
                if (random.nextInt(8) > model.s.readers.size()) {
                    call("reader", pick(0, 9), random.nextInt(3) == 0 ? 0 : pick(0, 7));
                }
                break;
            case 5:
                call("tire", someReader(), pick(0, random.nextInt(4) == 0 ? 999 : 40));
                break;
            case 6:
                call("of", someReader(), pick(0, 6));
                break;
            case 7: case 8: case 9:
                if (model.s.letters.size() < mostLetters || random.nextInt(30) == 0) {
                    call("letter", pick(0, 30), pick(0, 30), pick(1, 9),
                            mostLetters == 12 && random.nextInt(2) == 0 ? 0 : someReader(), pick(0, 1));
                }
                break;
            case 10:
                call("at", someLetter(), pick(0, 6));
                break;
            case 11:
                if (random.nextInt(3) == 0) {
                    call("terms", pick(0, 2), random.nextInt(3) == 0 ? pick(990, 999) : pick(0, 12));
                }
                break;
            case 12:
                call("feed", random.nextInt(), random.nextInt(), random.nextInt(), random.nextInt(), random.nextInt());
                break;
            case 13:
                call("end", pick(0, Math.max(0, model.tape.size())));
                break;
            case 14:
                rowOfLetters();
                break;
            case 15: case 16: case 17:
                text(true);
                call("law");
                call("fault");
                break;
            case 18: case 19: case 20:
                text(false);
                call("orders");
                call("fault");
                call("stopped");
                break;
            case 21: case 22:
                call("force", pick(-1, Math.max(0, model.s.laws.size() - 1)));
                break;
            case 23: case 24:
                call("asks", someLetter(), someOther(), pick(0, 3));
                break;
            case 25:
                call("rests", someReader());
                break;
            case 26: case 27: case 28:
                call("hand", someLetter(), someOther());
                break;
            case 29:
                call("onward", someLetter(), someReader());
                break;
            case 30:
                call("pass");
                break;
            case 31:
                call("undo");
                break;
            case 32:
                orderOf(someReader());
                break;
            case 33:
                gameOf(someReader());
                break;
            case 34:
                call("ledger", someReader(), random.nextInt(3) == 0 ? pick(-1, 99999) : pick(-1, 60));
                break;
            case 35: case 36:
                ledgersThatCanBe();
                call("joked", -1);
                call("joked", pick(0, 4));
                break;
            case 37:
                call("inside", someLetter(), pick(0, 60), random.nextInt(2) == 0 ? -1 : pick(0, 5));
                call("inside", someLetter(), 0, random.nextInt(2) == 0 ? -1 : pick(0, 5));
                break;
            case 38:
                call("way", someReader());
                call("cut", someReader(), pick(0, 1));
                break;
            case 39:
                call("bags", pick(1, random.nextInt(3) == 0 ? 99 : 20), 0);
                call("bags", pick(8, 20), 1);
                break;
            case 40:
                call("season", pick(0, 1000000), pick(1, 60));
                call("drawn", someReader(), pick(0, 2));
                call("drawn", someReader(), pick(0, 2));
                break;
            case 41:
                call(random.nextInt(3) == 0 ? "image" : "back", pick(0, 1));
                break;
            case 42:
                call("count", pick(0, 16));
                call("status");
                call("blots");
                break;
            default:
                if (random.nextInt(20) == 0 && calls < CALLS - 300) {
                    look();
                }
                break;
        }
    }

    private boolean isDear(int reader) {
        return model.s.isReader(reader) && model.s.heldFor(reader).size() > 5
                && model.s.heldFor(reader).size() <= 8 && random.nextInt(8) != 0;
    }

    private void orderOf(int reader) {
        if (isDear(reader)) {
            return;
        }
        call("order", reader, -1);
        call("order", reader, pick(0, 4));
    }

    private void gameOf(int reader) {
        if (isDear(reader)) {
            return;
        }
        call("game", reader, 0);
        call("game", reader, 1);
    }

    /** LEDGERS by one set of jokes, so that there is something to find. */
    private void ledgersThatCanBe() {
        if (model.s.readers.isEmpty() || random.nextInt(3) == 0) {
            return;
        }
        int reader = random.nextInt(model.s.readers.size());
        Model.State p = model.s.copy();
        for (int k : p.heldFor(-1)) {
            Model.Reader r = p.readers.get(p.letters.get(k).reader);
            Map<String, Integer> w = p.words(k, -1);
            r.paid += random.nextInt(3) == 0 ? 0 : p.weeps(w);
            r.had++;
            r.tired = Math.min(999, r.tired + p.tires(w));
        }
        call("ledger", reader, p.readers.get(reader).paid);
    }

    private void rowOfLetters() {
        if (random.nextInt(3) != 0) {
            return;
        }
        call("end", 0);
        int[] five = new int[5];
        int[] b = new int[20];
        for (int k = 0; k < 20; k += 5) {
            b[k] = pick(0, 30) & 255;
            b[k + 1] = pick(0, 30) & 255;
            b[k + 2] = pick(1, 9) & 255;
            b[k + 3] = someReader() & 255;
            b[k + 4] = pick(0, 1) & 255;
        }
        for (int k = 0; k < 5; k++) {
            five[k] = b[4 * k] << 24 | b[4 * k + 1] << 16 | b[4 * k + 2] << 8 | b[4 * k + 3];
        }
        call("feed", five[0], five[1], five[2], five[3], five[4]);
        call("end", random.nextInt(Math.max(1, Math.min(20, 5 * (mostLetters - model.s.letters.size() + 1))) + 1));
        call("row");
        call("blots");
    }

    private void look() {
        for (int k = 0; k <= 16; k++) {
            call("count", k);
        }
        for (int r = 0; r < Math.min(3, model.s.readers.size()); r++) {
            for (int what = 2; what <= 6; what++) {
                call("of", r, what);
            }
        }
        for (int l = 0; l < Math.min(4, model.s.letters.size()); l++) {
            call("at", l, 0);
            call("at", l, 3);
            call("at", l, 5);
            call("at", l, 6);
        }
    }

    // Texts: by the grammar, now and then with something wrong in them.

    private void text(boolean laws) {
        StringBuilder t = new StringBuilder();
        int clauses = random.nextInt(30) == 0 ? 11 + random.nextInt(3) : 1 + random.nextInt(4);
        for (int c = 0; c < clauses; c++) {
            t.append(c > 0 ? ";" : "").append(laws ? lawClause() : orderClause());
        }
        if (random.nextInt(6) == 0) {
            spoil(t);
        }
        if (random.nextInt(10) == 0) {
            t.append("  ");
        }
        if (t.length() <= 400) {
            putOnTape(t.toString());
        }
    }

    private void putOnTape(String text) {
        byte[] bytes = text.getBytes(java.nio.charset.StandardCharsets.ISO_8859_1);
        call("end", 0);
        for (int k = 0; k < bytes.length; k += 20) {
            Integer[] five = new Integer[5];
            for (int n = 0; n < 5; n++) {
                int four = 0;
                for (int m = 0; m < 4; m++) {
                    int place = k + 4 * n + m;
                    four = four << 8 | (place < bytes.length ? bytes[place] & 255 : 32);
                }
                five[n] = four;
            }
            call("feed", five);
        }
        call("end", bytes.length);
    }

    private void spoil(StringBuilder t) {
        int place = random.nextInt(t.length());
        String[] wrong = {"x", "if", ";", "(", "]", "1001", "Z", " ", "or ", "not ", "\u00e9", "8", "times 3", "[", " with 1"};
        if (random.nextInt(2) == 0) {
            t.insert(place, wrong[random.nextInt(wrong.length)]);
        } else {
            t.deleteCharAt(place);
        }
    }

    private String lawClause() {
        String[] kinds = {"weeps", "weeps", "tires", "rests", "laughs", "bars"};
        String kind = kinds[random.nextInt(6)];
        String sum = kind.equals("laughs") || kind.equals("bars") ? "" : " " + sum(true, 3);
        boolean tested = kind.equals("bars") || random.nextInt(2) == 0;
        return kind + sum + (tested ? " if " + test(true, 3) : "");
    }

    private String orderClause() {
        String start = random.nextInt(3) == 0 ? "pass" : "hand " + (random.nextInt(2) == 0
                ? String.valueOf(random.nextInt(6)) : sum(false, 2));
        if (start.startsWith("hand") && random.nextInt(4) == 0) {
            start += " with " + (random.nextInt(2) == 0 ? String.valueOf(random.nextInt(6)) : sum(false, 2));
        }
        if (random.nextInt(4) == 0) {
            start += " times " + (random.nextInt(20) == 0 ? pick(0, 21) : 1 + random.nextInt(20));
        }
        return start + (random.nextInt(2) == 0 ? " if " + test(false, 3) : "");
    }

    private String test(boolean laws, int depth) {
        int kind = depth <= 0 ? 9 : random.nextInt(10);
        switch (kind) {
            case 0:
                return test(laws, depth - 1) + " or " + test(laws, depth - 1);
            case 1:
                return test(laws, depth - 1) + " and " + test(laws, depth - 1);
            case 2:
                return "not " + test(laws, depth - 1);
            case 3:
                return "(" + test(laws, depth - 1) + ")";
            default:
                String[] signs = {"<", ">", "=", " < ", " > ", " = "};
                return sum(laws, depth) + signs[random.nextInt(6)] + sum(laws, depth);
        }
    }

    private String sum(boolean laws, int depth) {
        int kind = depth <= 0 ? 9 : random.nextInt(10);
        if (kind <= 2) {
            return sum(laws, depth - 1) + "+-".charAt(random.nextInt(2)) + sum(laws, depth - 1);
        }
        if (kind <= 4) {
            return part(laws, depth) + "*/%".charAt(random.nextInt(3)) + part(laws, depth);
        }
        return part(laws, depth);
    }

    private String part(boolean laws, int depth) {
        int kind = random.nextInt(8);
        if (kind == 0 && depth > 0) {
            return "[" + sum(laws, depth - 1) + "]";
        }
        if (kind <= 3) {
            int[] numbers = {0, 1, 2, 3, 5, 10, 20, 999, 1000};
            return (random.nextInt(30) == 0 ? "00" : "") + numbers[random.nextInt(numbers.length)];
        }
        String[] lawWords = {"reader", "soft", "tired", "had", "grief", "joke", "weight", "with", "day", "mood"};
        String[] orderWords = {"day", "letters", "office", "done", "paid", "tired " + random.nextInt(8), "owed 0"};
        return laws ? lawWords[random.nextInt(lawWords.length)] : orderWords[random.nextInt(orderWords.length)];
    }
}
