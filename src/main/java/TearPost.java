import java.util.Arrays;

/** A post that is paid in tears by whoever gets a letter, after it was read. */
public final class TearPost {
    public static final int NONE = -1;
    public static final int NOTHING = -1000000;

    private static final int BAD_NUMBER = -1;
    private static final int NO_SUCH = -2;
    private static final int CANNOT = -3;
    private static final int NO_ROOM = -5;
    private static final int BAD_TEXT = -6;

    private static final int MOST_TOWNS = 8;
    private static final int MOST_ROADS = 12;
    private static final int MOST_READERS = 8;
    private static final int MOST_LETTERS = 12;
    private static final int MOST_LAWS = 6;
    private static final int MOST_IMAGES = 2;
    private static final int MOST_BYTES = 400;
    private static final int MOST_CLAUSES = 12;
    private static final int MOST_ON_PAPER = 8;
    private static final int MOST_SOFT = 9;
    private static final int MOST_GRIEF = 30;
    private static final int MOST_WEIGHT = 9;
    private static final int MOST_TIRED = 999;
    private static final int MOST_LEDGER = 99999;
    private static final int MOST_BAG = 99;
    private static final int MOST_SEED = 1000000;
    private static final int MOST_SEASON = 60;
    private static final int LAST_DAY = 999;

    private static final int[] LEAST_OF_TERM = {0, 1, 0};
    private static final int[] MOST_OF_TERM = {999, 99, 9};

    // Places in a stand: one row of numbers, so that a single copy keeps it or gives it back.
    // The TERMS, the fields of READERS and those of LETTERS lie in the order that calls number them by.
    private static final int DAY = 0;
    private static final int INK = 1;
    private static final int MOOD = 2;
    private static final int OFFICE = 3;
    private static final int READERS = 4;
    private static final int LETTERS = 5;
    private static final int SOFT = 6;
    private static final int TOWN = 14;
    private static final int TIRED = 22;
    private static final int HAD = 30;
    private static final int OWED = 38;
    private static final int PAID = 46;
    private static final int GRIEF = 54;
    private static final int JOKE = 66;
    private static final int WEIGHT = 78;
    private static final int GOES_TO = 90;
    private static final int SENDER = 102;
    private static final int READ = 114;
    private static final int PRICE = 126;
    private static final int STAND = 138;

    private static final int UNDO_HAND = 0;
    private static final int UNDO_ONWARD = 1;
    private static final int UNDO_PASS = 2;

    private final World world = new World();
    private final int[] stand = world.stand;
    private final World[] images = new World[MOST_IMAGES];
    private final Undo undone = new Undo();
    private final Undo undoneAhead = new Undo();
    private final int[] sheet = new int[STAND];
    private final Tape tape = new Tape();
    private final Grammar grammar = new Grammar(tape);
    private final Heart heart = new Heart();
    private final int[] orderWords = new int[Grammar.ORDER_WORDS];
    private final Search search = new Search(heart, stand);
    private final Suspects suspects = new Suspects(heart, world, sheet);
    private final Bags packing = new Bags();
    private final int[] drawnRow = new int[3 * MOST_READERS];
    private int drawnReaders;
    private final int[] refusals = new int[5];
    private int refusedBy;
    private int faultAt = NONE;
    private int stoppedAt = NONE;
    private int blotted;

    public TearPost() {
    }

    public int road(int one, int other) {
        if (!isTown(one) || !isTown(other) || one == other) {
            return refuse(BAD_NUMBER);
        }
        if (world.roads >= MOST_ROADS) {
            return refuse(NO_ROOM);
        }
        world.ones[world.roads] = one;
        world.others[world.roads] = other;
        world.roads++;
        return accept(world.roads - 1);
    }

    public int mow() {
        if (world.roads <= 0) {
            return refuse(CANNOT);
        }
        world.roads--;
        return accept(world.roads);
    }

    public int reader(int soft, int town) {
        if (soft < 0 || soft > MOST_SOFT || !isTown(town)) {
            return refuse(BAD_NUMBER);
        }
        int number = stand[READERS];
        if (number >= MOST_READERS) {
            return refuse(NO_ROOM);
        }
        for (int field = SOFT; field <= PAID; field += MOST_READERS) {
            stand[field + number] = 0;
        }
        stand[SOFT + number] = soft;
        stand[TOWN + number] = town;
        world.ledgers[number] = NONE;
        stand[READERS] = number + 1;
        undone.forget();
        return accept(number);
    }

    public int tire(int reader, int value) {
        if (value < 0 || value > MOST_TIRED) {
            return refuse(BAD_NUMBER);
        }
        if (!isReader(reader)) {
            return refuse(NO_SUCH);
        }
        int was = stand[TIRED + reader];
        stand[TIRED + reader] = value;
        undone.forget();
        return accept(was);
    }

    public int of(int reader, int what) {
        if (!isReader(reader) || what < 0 || what > 6) {
            return NONE;
        }
        return what == 6 ? world.ledgers[reader] : stand[SOFT + what * MOST_READERS + reader];
    }

    public int letter(int grief, int joke, int weight, int reader, int sender) {
        int refusal = refusalOfLetter(grief, joke, weight, reader, sender);
        if (refusal != 0) {
            return refuse(refusal);
        }
        addLetter(grief, joke, weight, reader, sender);
        undone.forget();
        return accept(stand[LETTERS] - 1);
    }

    public int at(int letter, int what) {
        if (!isLetter(letter) || what < 0 || what > 6) {
            return NONE;
        }
        return stand[GRIEF + what * MOST_LETTERS + letter];
    }

    public int terms(int what, int value) {
        if (what < 0 || what > 2 || value < LEAST_OF_TERM[what] || value > MOST_OF_TERM[what]) {
            return refuse(BAD_NUMBER);
        }
        int was = stand[what];
        stand[what] = value;
        undone.forget();
        return accept(was);
    }

    public int feed(int a, int b, int c, int d, int e) {
        if (tape.length + 20 > MOST_BYTES) {
            return NONE;
        }
        tape.add(a);
        tape.add(b);
        tape.add(c);
        tape.add(d);
        tape.add(e);
        return tape.length;
    }

    public int end(int n) {
        if (n < 0 || n > tape.length) {
            return NONE;
        }
        tape.length = n;
        return n;
    }

    public int row() {
        if (tape.length == 0) {
            return refuse(BAD_TEXT);
        }
        int before = stand[LETTERS];
        blotted = 0;
        for (int from = 0; from < tape.length; from += 5) {
            if (!addFromTape(from)) {
                blotted++;
            }
        }
        tape.length = 0;
        undone.forget();
        return accept(stand[LETTERS] - before);
    }

    public int blots() {
        return blotted;
    }

    public int law() {
        if (world.lawCount >= MOST_LAWS) {
            tape.length = 0;
            return refuse(NO_ROOM);
        }
        faultAt = grammar.reads(true);
        if (faultAt != NONE) {
            return refuse(BAD_TEXT);
        }
        world.laws[world.lawCount] = new Text(grammar.text);
        world.lawCount++;
        return accept(world.lawCount - 1);
    }

    public int orders() {
        stoppedAt = NONE;
        faultAt = grammar.reads(false);
        if (faultAt != NONE) {
            return refuse(BAD_TEXT);
        }
        System.arraycopy(stand, 0, sheet, 0, STAND);
        undoneAhead.take(undone);
        orderWords[Grammar.DONE] = 0;
        orderWords[Grammar.LATEST] = NONE;
        for (int clause = 0; clause < grammar.text.clauses; clause++) {
            int times = grammar.text.told(clause, Text.TIMES);
            for (int n = 0; n < times; n++) {
                if (!runOrder(clause)) {
                    System.arraycopy(sheet, 0, stand, 0, STAND);
                    undone.take(undoneAhead);
                    stoppedAt = clause;
                    return refuse(CANNOT);
                }
            }
        }
        return accept(orderWords[Grammar.DONE]);
    }

    public int fault() {
        return faultAt;
    }

    public int stopped() {
        return stoppedAt;
    }

    public int force(int law) {
        if (law < NONE || law >= world.lawCount) {
            return refuse(NO_SUCH);
        }
        int was = world.inForce;
        world.inForce = law;
        return accept(was);
    }

    public int asks(int letter, int other, int what) {
        if (!isLetter(letter) || !areTogether(letter, other)) {
            return NONE;
        }
        meet(stand, letter, other);
        switch (what) {
            case 0:
                return heart.weeping();
            case 1:
                return heart.laughing() ? 1 : 0;
            case 2:
                return heart.tiring();
            case 3:
                return heart.barred() ? 1 : 0;
            default:
                return NONE;
        }
    }

    public int rests(int reader) {
        if (!isReader(reader)) {
            return NONE;
        }
        heart.face(world.ruling(), stand, reader);
        return heart.resting();
    }

    public int hand(int letter, int other) {
        int paid = tryHanding(letter, other);
        return paid < 0 ? refuse(paid) : accept(paid);
    }

    public int onward(int letter, int reader) {
        if (!isLetter(letter) || !isReader(reader)) {
            return refuse(NO_SUCH);
        }
        if (stand[READ + letter] == 0 || stand[PRICE + letter] < stand[INK]
                || stand[GOES_TO + letter] == reader) {
            return refuse(CANNOT);
        }
        undone.keep(UNDO_ONWARD, stand);
        stand[GRIEF + letter] = Math.max(0, stand[GRIEF + letter] - 1);
        stand[GOES_TO + letter] = reader;
        stand[READ + letter] = 0;
        stand[PRICE + letter] = 0;
        return accept(stand[GRIEF + letter]);
    }

    public int pass() {
        int day = tryPassing();
        return day < 0 ? refuse(day) : accept(day);
    }

    public int undo() {
        int kind = undone.giveBack(stand);
        return kind == NONE ? refuse(CANNOT) : accept(kind);
    }

    public int order(int reader, int i) {
        if (!isReader(reader) || !search.gather(world.ruling(), reader)) {
            return NONE;
        }
        return search.bestOrder(i);
    }

    public int game(int reader, int what) {
        if (!isReader(reader) || what < 0 || what > 1 || !search.gather(world.ruling(), reader)) {
            return NOTHING;
        }
        int lead = search.lead(0, stand[TIRED + reader], 0, 0);
        return what == 0 ? lead : search.first;
    }

    public int ledger(int reader, int value) {
        if (value < NONE || value > MOST_LEDGER) {
            return refuse(BAD_NUMBER);
        }
        if (!isReader(reader)) {
            return refuse(NO_SUCH);
        }
        int was = world.ledgers[reader];
        world.ledgers[reader] = value;
        return accept(was);
    }

    public int joked(int i) {
        suspects.gather();
        return suspects.sets(i);
    }

    public int inside(int letter, int paid, int i) {
        if (!isLetter(letter)) {
            return NONE;
        }
        heart.face(world.ruling(), stand, stand[GOES_TO + letter]);
        int found = 0;
        for (int grief = 0; grief <= MOST_GRIEF; grief++) {
            heart.hold(grief, stand[JOKE + letter], stand[WEIGHT + letter], 1);
            if (heart.paying() == paid) {
                if (found == i) {
                    return grief;
                }
                found++;
            }
        }
        return i == NONE ? found : NONE;
    }

    public int way(int reader) {
        return isReader(reader) ? world.wayTo(stand[TOWN + reader]) : NONE;
    }

    public int cut(int reader, int what) {
        if (!isReader(reader) || what < 0 || what > 1 || stand[TOWN + reader] == 0) {
            return NONE;
        }
        int roads = world.fewestToCut(stand[TOWN + reader]);
        return what == 0 ? Integer.bitCount(roads) : roads;
    }

    public int bags(int weight, int what) {
        if (weight < 1 || weight > MOST_BAG || what < 0 || what > 1 || !packing.pack(stand, weight)) {
            return NONE;
        }
        return what == 0 ? packing.fewest() : packing.firstBag();
    }

    public int season(int seed, int n) {
        if (seed < 0 || seed > MOST_SEED || n < 1 || n > MOST_SEASON) {
            return refuse(BAD_NUMBER);
        }
        if (stand[LETTERS] <= 0) {
            return refuse(CANNOT);
        }
        System.arraycopy(stand, 0, sheet, 0, STAND);
        liveSeason(seed, n);
        drawnReaders = stand[READERS];
        for (int r = 0; r < MOST_READERS; r++) {
            drawnRow[r] = sheet[PAID + r] - stand[PAID + r];
            drawnRow[MOST_READERS + r] = sheet[HAD + r] - stand[HAD + r];
            drawnRow[2 * MOST_READERS + r] = sheet[TIRED + r];
        }
        return accept(sheet[OFFICE] - stand[OFFICE]);
    }

    public int drawn(int reader, int what) {
        if (reader < 0 || reader >= drawnReaders || what < 0 || what > 2) {
            return NONE;
        }
        return drawnRow[what * MOST_READERS + reader];
    }

    public int image(int k) {
        if (k < 0 || k >= MOST_IMAGES) {
            return refuse(BAD_NUMBER);
        }
        if (images[k] == null) {
            images[k] = new World();
        }
        images[k].take(world);
        return accept(0);
    }

    public int back(int k) {
        if (k < 0 || k >= MOST_IMAGES) {
            return refuse(BAD_NUMBER);
        }
        if (images[k] == null) {
            return refuse(NO_SUCH);
        }
        world.take(images[k]);
        undone.forget();
        return accept(0);
    }

    public int count(int what) {
        if (what >= 7 && what <= 11) {
            return refusals[what - 7];
        }
        if (what >= 14 && what <= 16) {
            return stand[what - 14];
        }
        switch (what) {
            case 0:
                return world.roads;
            case 1:
                return stand[READERS];
            case 2:
                return stand[LETTERS];
            case 3:
                return howManyHeld();
            case 4:
                return world.lawCount;
            case 5:
                return undone.kept;
            case 6:
                return tape.length;
            case 12:
                return world.inForce;
            case 13:
                return stand[OFFICE];
            default:
                return NONE;
        }
    }

    public int status() {
        return refusedBy;
    }

    private int accept(int answer) {
        refusedBy = 0;
        return answer;
    }

    private int refuse(int code) {
        refusedBy = code;
        // There is no -4, so what is behind it moves up by one.
        int place = code >= CANNOT ? -code - 1 : -code - 2;
        if (place >= 0 && place < refusals.length) {
            refusals[place]++;
        }
        return code;
    }

    private static boolean isTown(int town) {
        return town >= 0 && town < MOST_TOWNS;
    }

    private boolean isReader(int reader) {
        return reader >= 0 && reader < stand[READERS];
    }

    private boolean isLetter(int letter) {
        return letter >= 0 && letter < stand[LETTERS];
    }

    /** Whether there is no other LETTER, or it is an unlike one for the same READER. */
    private boolean areTogether(int letter, int other) {
        return other == NONE
                || isLetter(other) && other != letter && stand[GOES_TO + other] == stand[GOES_TO + letter];
    }

    private int refusalOfLetter(int grief, int joke, int weight, int reader, int sender) {
        if (grief < 0 || grief > MOST_GRIEF || joke < 0 || joke > MOST_GRIEF
                || weight < 1 || weight > MOST_WEIGHT || sender < 0 || sender > 1) {
            return BAD_NUMBER;
        }
        if (!isReader(reader)) {
            return NO_SUCH;
        }
        return stand[LETTERS] >= MOST_LETTERS ? NO_ROOM : 0;
    }

    private void addLetter(int grief, int joke, int weight, int reader, int sender) {
        int number = stand[LETTERS];
        stand[GRIEF + number] = grief;
        stand[JOKE + number] = joke;
        stand[WEIGHT + number] = weight;
        stand[GOES_TO + number] = reader;
        stand[SENDER + number] = sender;
        stand[READ + number] = 0;
        stand[PRICE + number] = 0;
        stand[LETTERS] = number + 1;
    }

    private boolean addFromTape(int from) {
        if (from + 5 > tape.length) {
            return false;
        }
        int[] bytes = tape.bytes;
        int grief = bytes[from];
        int joke = bytes[from + 1];
        int weight = bytes[from + 2];
        int reader = bytes[from + 3];
        int sender = bytes[from + 4];
        if (refusalOfLetter(grief, joke, weight, reader, sender) != 0) {
            return false;
        }
        addLetter(grief, joke, weight, reader, sender);
        return true;
    }

    private int howManyHeld() {
        int held = 0;
        for (int k = 0; k < stand[LETTERS]; k++) {
            held += 1 - stand[READ + k];
        }
        return held;
    }

    /** Puts one LETTER or two before the READER they are for, as things are in a stand. */
    private void meet(int[] there, int letter, int other) {
        heart.face(world.ruling(), there, there[GOES_TO + letter]);
        if (other == NONE) {
            heart.hold(there[GRIEF + letter], there[JOKE + letter], there[WEIGHT + letter], 1);
        } else {
            heart.hold(there[GRIEF + letter] + there[GRIEF + other], there[JOKE + letter] + there[JOKE + other],
                    there[WEIGHT + letter] + there[WEIGHT + other], 2);
        }
    }

    private int tryHanding(int letter, int other) {
        if (!isLetter(letter) || other != NONE && !isLetter(other)) {
            return NO_SUCH;
        }
        if (!areTogether(letter, other) || stand[READ + letter] != 0
                || other != NONE && stand[READ + other] != 0) {
            return CANNOT;
        }
        int town = stand[TOWN + stand[GOES_TO + letter]];
        if ((world.reached(0) >> town & 1) == 0) {
            return CANNOT;
        }
        meet(stand, letter, other);
        if (heart.barred()) {
            return CANNOT;
        }
        undone.keep(UNDO_HAND, stand);
        return readLetters(stand, letter, other);
    }

    /** What comes of handing LETTERS that the READER has just met: what is paid. */
    private int readLetters(int[] there, int letter, int other) {
        int reader = there[GOES_TO + letter];
        boolean laughs = heart.laughing();
        int paid = laughs ? 0 : heart.weeping();
        if (!laughs && paid == 0) {
            there[OWED + reader]++;
        }
        there[TIRED + reader] = Math.min(MOST_TIRED, there[TIRED + reader] + heart.tiring());
        there[PAID + reader] += paid;
        there[OFFICE] += paid;
        there[HAD + reader]++;
        there[READ + letter] = 1;
        there[PRICE + letter] = paid;
        if (other != NONE) {
            int both = there[WEIGHT + letter] + there[WEIGHT + other];
            int part = both > 0 ? paid * there[WEIGHT + letter] / both : 0;
            there[HAD + reader]++;
            there[READ + other] = 1;
            there[PRICE + letter] = part;
            there[PRICE + other] = paid - part;
        }
        return paid;
    }

    private int tryPassing() {
        if (stand[DAY] >= LAST_DAY) {
            return CANNOT;
        }
        undone.keep(UNDO_PASS, stand);
        letDayGoBy(stand);
        return stand[DAY];
    }

    private void letDayGoBy(int[] there) {
        for (int r = 0; r < there[READERS]; r++) {
            heart.face(world.ruling(), there, r);
            there[TIRED + r] = Math.max(0, there[TIRED + r] - heart.resting());
        }
        there[DAY]++;
    }

    /** Runs a CLAUSE of ORDERS once, if its "if" is so; false if it can't be. */
    private boolean runOrder(int clause) {
        Text text = grammar.text;
        Machine machine = heart.machine;
        tellOrderWords();
        if (machine.run(text, clause, Text.TEST, orderWords) != 1) {
            return true;
        }
        int answer;
        if (text.told(clause, Text.KIND) == Grammar.PASS) {
            answer = tryPassing();
        } else {
            boolean two = text.told(clause, Text.WITH) < text.told(clause, Text.TEST);
            int letter = machine.run(text, clause, Text.SUM, orderWords);
            int other = two ? machine.run(text, clause, Text.WITH, orderWords) : NONE;
            // A second SUM of NONE is no LETTER either: behind "with" it is two that are handed.
            if (!isLetter(letter) || two && !isLetter(other)) {
                return false;
            }
            answer = tryHanding(letter, other);
            orderWords[Grammar.LATEST] = answer;
        }
        orderWords[Grammar.DONE]++;
        return answer >= 0;
    }

    private void tellOrderWords() {
        orderWords[Grammar.TODAY] = stand[DAY];
        orderWords[Grammar.ALL_LETTERS] = stand[LETTERS];
        orderWords[Grammar.IN_OFFICE] = stand[OFFICE];
        for (int r = 0; r < MOST_READERS; r++) {
            boolean there = isReader(r);
            orderWords[Grammar.TIRED_OF + r] = there ? stand[TIRED + r] : NONE;
            orderWords[Grammar.OWED_OF + r] = there ? stand[OWED + r] : NONE;
        }
    }

    /** Lives the DAYS of a SEASON on the sheet. */
    private void liveSeason(int seed, int days) {
        int towns = world.reached(0);
        int letters = sheet[LETTERS];
        int s = seed;
        for (int n = 0; n < days && letters > 0; n++) {
            s = (s * 1103 + 12345) % 1000003;
            int letter = s % letters;
            meet(sheet, letter, NONE);
            if ((towns >> sheet[TOWN + sheet[GOES_TO + letter]] & 1) == 1 && !heart.barred()) {
                readLetters(sheet, letter, NONE);
            }
            if (sheet[DAY] >= LAST_DAY) {
                return;
            }
            letDayGoBy(sheet);
        }
    }

    /** All that IMAGES keep. */
    private static final class World {
        final int[] stand = new int[STAND];
        final int[] ones = new int[MOST_ROADS];
        final int[] others = new int[MOST_ROADS];
        final int[] ledgers = new int[MOST_READERS];
        final Text[] laws = new Text[MOST_LAWS];
        int roads;
        int lawCount;
        int inForce = NONE;

        World() {
            stand[INK] = 10;
            Arrays.fill(ledgers, NONE);
        }

        void take(World other) {
            System.arraycopy(other.stand, 0, stand, 0, STAND);
            System.arraycopy(other.ones, 0, ones, 0, MOST_ROADS);
            System.arraycopy(other.others, 0, others, 0, MOST_ROADS);
            System.arraycopy(other.ledgers, 0, ledgers, 0, MOST_READERS);
            for (int k = 0; k < MOST_LAWS; k++) {
                laws[k] = other.laws[k];
            }
            roads = other.roads;
            lawCount = other.lawCount;
            inForce = other.inForce;
        }

        /** The LAW in FORCE, null without. */
        Text ruling() {
            return inForce >= 0 && inForce < lawCount ? laws[inForce] : null;
        }

        /** TOWNS as bits that are at most one ROAD away from some, without those ROADS that are cut. */
        private int spread(int towns, int cutRoads) {
            int wider = towns;
            for (int k = 0; k < roads; k++) {
                int both = 1 << ones[k] | 1 << others[k];
                if ((cutRoads >> k & 1) == 0 && (towns & both) != 0) {
                    wider |= both;
                }
            }
            return wider;
        }

        /** TOWNS as bits that can be reached from TOWN 0, without those ROADS that are cut. */
        int reached(int cutRoads) {
            int towns = 1;
            for (int n = 1; n < MOST_TOWNS; n++) {
                int wider = spread(towns, cutRoads);
                if (wider == towns) {
                    return towns;
                }
                towns = wider;
            }
            return towns;
        }

        int wayTo(int town) {
            int towns = 1;
            for (int n = 0; n < MOST_TOWNS; n++) {
                if ((towns >> town & 1) == 1) {
                    return n;
                }
                towns = spread(towns, 0);
            }
            return NONE;
        }

        /** The fewest ROADS, as bits, without which a TOWN other than 0 can't be reached. */
        int fewestToCut(int town) {
            int fewest = (1 << roads) - 1;
            for (int set = 0; set < 1 << roads; set++) {
                if (Integer.bitCount(set) < Integer.bitCount(fewest) && (reached(set) >> town & 1) == 0) {
                    fewest = set;
                }
            }
            return fewest;
        }
    }

    /** The stands ahead of the latest sixteen calls that can be undone, in a ring. */
    private static final class Undo {
        private static final int ROOM = 16;
        private final int[][] stands = new int[ROOM][STAND];
        private final int[] kinds = new int[ROOM];
        private int next;
        int kept;

        void forget() {
            kept = 0;
        }

        void keep(int kind, int[] stand) {
            System.arraycopy(stand, 0, stands[next], 0, STAND);
            kinds[next] = kind;
            next = (next + 1) % ROOM;
            kept = Math.min(ROOM, kept + 1);
        }

        /** Puts the latest stand back: what was undone, NONE if there is nothing. */
        int giveBack(int[] stand) {
            if (kept <= 0) {
                return NONE;
            }
            kept--;
            next = (next + ROOM - 1) % ROOM;
            System.arraycopy(stands[next], 0, stand, 0, STAND);
            return kinds[next];
        }

        void take(Undo other) {
            for (int k = 0; k < ROOM; k++) {
                System.arraycopy(other.stands[k], 0, stands[k], 0, STAND);
                kinds[k] = other.kinds[k];
            }
            next = other.next;
            kept = other.kept;
        }
    }

    private static final class Tape {
        final int[] bytes = new int[MOST_BYTES];
        int length;

        /** Four bytes more, the highest first, as far as there is room. */
        void add(int four) {
            for (int shift = 24; shift >= 0; shift -= 8) {
                if (length < MOST_BYTES) {
                    bytes[length] = four >> shift & 255;
                    length++;
                }
            }
        }
    }

    /** A TEXT that was read: instructions for the machine, and a row of numbers for each CLAUSE. */
    private static final class Text {
        // What is told of a CLAUSE. Its SUMS and its TEST lie behind one another in the code:
        // each begins where it is told, and stops where the next one does.
        static final int KIND = 0;
        static final int SUM = 1;
        static final int WITH = 2;
        static final int TEST = 3;
        static final int STOP = 4;
        static final int TIMES = 5;
        private static final int TOLD = 6;

        private final int[] code;
        private final int[] rows;
        int size;
        int clauses;

        Text() {
            code = new int[MOST_BYTES];
            rows = new int[MOST_CLAUSES * TOLD];
        }

        Text(Text other) {
            code = Arrays.copyOf(other.code, other.size);
            rows = Arrays.copyOf(other.rows, other.clauses * TOLD);
            size = other.size;
            clauses = other.clauses;
        }

        int told(int clause, int what) {
            return rows[clause * TOLD + what];
        }

        void tell(int what, int value) {
            rows[clauses * TOLD + what] = value;
        }

        boolean has(int kind) {
            for (int c = 0; c < clauses; c++) {
                if (told(c, KIND) == kind) {
                    return true;
                }
            }
            return false;
        }

        /** One instruction more; its place. Each TOKEN makes one at most, so the TAPE's length is room enough. */
        int put(int operation, int number) {
            if (size < code.length) {
                code[size] = operation | number << 4;
                size++;
            }
            return size - 1;
        }

        /** Lets a jump lead to behind the latest instruction. */
        void landHere(int jump) {
            if (jump >= 0 && jump < size) {
                code[jump] = code[jump] & 15 | size << 4;
            }
        }
    }

    /** Works out SUMS and TESTS (1 if so, 0 if not). */
    private static final class Machine {
        static final int NUMBER = 0;
        static final int WORD = 1;
        static final int PLUS = 2;
        static final int MINUS = 3;
        static final int MULTIPLY = 4;
        static final int DIVIDE = 5;
        static final int REMAINDER = 6;
        static final int BELOW = 7;
        static final int ABOVE = 8;
        static final int ALIKE = 9;
        static final int NOT = 10;
        static final int OR = 11;
        static final int AND = 12;
        /** How many values each of the sixteen operations that could be written needs on the stack. */
        private static final int[] NEEDED = {0, 0, 2, 2, 2, 2, 2, 2, 2, 2, 1, 1, 1, 1, 1, 1};

        /** Lies beyond what any SUM can be. */
        static final int BROKEN = -2000000000;
        private static final long FARTHEST = 1000000000L;
        private static final int HEIGHT = 64;

        private final long[] stack = new long[HEIGHT];

        /** What a SUM or the TEST of a CLAUSE is, BROKEN if it is; 1 where there is none. */
        int run(Text text, int clause, int which, int[] words) {
            int place = text.told(clause, which);
            int stop = text.told(clause, which + 1);
            int top = 0;
            for (int n = 0; n < MOST_BYTES && place < stop && place < text.size; n++) {
                int operation = text.code[place] & 15;
                int number = text.code[place] >> 4;
                place++;
                if (top >= HEIGHT || top < NEEDED[operation] || operation == WORD && number >= words.length) {
                    return BROKEN;
                }
                long last = top > 0 ? stack[top - 1] : 0;
                if (operation <= WORD) {
                    stack[top] = operation == NUMBER ? number : words[number];
                    top++;
                } else if (operation == NOT) {
                    stack[top - 1] = 1 - last;
                } else if (operation >= OR) {
                    // What is known already jumps over what can't matter any more.
                    boolean known = last == (operation == OR ? 1 : 0);
                    place = known ? number : place;
                    top = known ? top : top - 1;
                } else if (last == 0 && (operation == DIVIDE || operation == REMAINDER)) {
                    return BROKEN;
                } else {
                    top--;
                    long joined = stack[top - 1];
                    switch (operation) {
                        case PLUS: joined += last; break;
                        case MINUS: joined -= last; break;
                        case MULTIPLY: joined *= last; break;
                        case DIVIDE: joined /= last; break;
                        case REMAINDER: joined %= last; break;
                        case BELOW: joined = joined < last ? 1 : 0; break;
                        case ABOVE: joined = joined > last ? 1 : 0; break;
                        default: joined = joined == last ? 1 : 0; break;
                    }
                    if (joined < -FARTHEST || joined > FARTHEST) {
                        return BROKEN;
                    }
                    stack[top - 1] = joined;
                }
            }
            return top > 0 ? (int) stack[top - 1] : 1;
        }
    }

    /** Reads TEXTS of both languages. Wherever reading stops, the TOKEN it stands at is the FAULT. */
    private static final class Grammar {
        // Kinds of CLAUSES: of LAWS, then of ORDERS.
        static final int WEEPS = 0;
        static final int TIRES = 1;
        static final int RESTS = 2;
        static final int LAUGHS = 3;
        static final int BARS = 4;
        static final int HAND = 5;
        static final int PASS = 6;

        // Places of the words of ORDERS.
        static final int TODAY = 0;
        static final int ALL_LETTERS = 1;
        static final int IN_OFFICE = 2;
        static final int DONE = 3;
        static final int LATEST = 4;
        static final int TIRED_OF = 5;
        static final int OWED_OF = TIRED_OF + MOST_READERS;
        static final int ORDER_WORDS = OWED_OF + MOST_READERS;

        private static final int MOST_PARTS = 50;
        private static final int MOST_BRACKETS = 8;
        private static final int MOST_NUMBER = 1000;
        private static final int MOST_TIMES = 20;

        final Text text = new Text();
        private final Tape tape;
        private final int[] bytes;
        private int length;
        private boolean laws;
        private int parts;
        int from;
        private int to;

        Grammar(Tape tape) {
            this.tape = tape;
            this.bytes = tape.bytes;
        }

        /** Reads the TAPE into the text, and empties it: where the FAULT is, NONE if there is none. */
        int reads(boolean ofLaws) {
            length = tape.length;
            tape.length = 0;
            laws = ofLaws;
            parts = 0;
            to = 0;
            text.size = 0;
            text.clauses = 0;
            step();
            for (int n = 0; n < MOST_CLAUSES; n++) {
                boolean fine = laws ? lawClause() : orderClause();
                text.tell(Text.TEST, text.size);
                if (fine && isWord("if")) {
                    step();
                    fine = test(0);
                }
                if (!fine) {
                    return from;
                }
                text.tell(Text.STOP, text.size);
                text.clauses++;
                if (from >= length) {
                    return NONE;
                }
                if (!takeSign(';')) {
                    return from;
                }
            }
            return from;
        }

        private boolean lawClause() {
            int kind = lawKind();
            if (kind == NONE) {
                return false;
            }
            step();
            text.tell(Text.KIND, kind);
            text.tell(Text.TIMES, 1);
            text.tell(Text.SUM, text.size);
            boolean fine = kind > RESTS || sum(0);
            text.tell(Text.WITH, text.size);
            return fine;
        }

        private int lawKind() {
            if (isWord("weeps")) {
                return WEEPS;
            }
            if (isWord("tires")) {
                return TIRES;
            }
            if (isWord("rests")) {
                return RESTS;
            }
            if (isWord("laughs")) {
                return LAUGHS;
            }
            return isWord("bars") ? BARS : NONE;
        }

        private boolean orderClause() {
            boolean hands = isWord("hand");
            if (!hands && !isWord("pass")) {
                return false;
            }
            step();
            text.tell(Text.KIND, hands ? HAND : PASS);
            text.tell(Text.TIMES, 1);
            text.tell(Text.SUM, text.size);
            if (hands && !sum(0)) {
                return false;
            }
            text.tell(Text.WITH, text.size);
            if (hands && isWord("with")) {
                step();
                if (!sum(0)) {
                    return false;
                }
            }
            if (isWord("times")) {
                step();
                int times = number();
                if (times < 1 || times > MOST_TIMES) {
                    return false;
                }
                text.tell(Text.TIMES, times);
                step();
            }
            return true;
        }

        private boolean test(int brackets) {
            if (!both(brackets)) {
                return false;
            }
            for (int n = 0; n < MOST_BYTES && isWord("or"); n++) {
                step();
                int jump = text.put(Machine.OR, 0);
                if (!both(brackets)) {
                    return false;
                }
                text.landHere(jump);
            }
            return true;
        }

        private boolean both(int brackets) {
            if (!plain(brackets)) {
                return false;
            }
            for (int n = 0; n < MOST_BYTES && isWord("and"); n++) {
                step();
                int jump = text.put(Machine.AND, 0);
                if (!plain(brackets)) {
                    return false;
                }
                text.landHere(jump);
            }
            return true;
        }

        private boolean plain(int brackets) {
            boolean turned = false;
            for (int n = 0; n < MOST_BYTES && isWord("not"); n++) {
                step();
                turned = !turned;
            }
            boolean bracket = isSign('(');
            if (bracket) {
                if (brackets >= MOST_BRACKETS) {
                    return false;
                }
                step();
            }
            boolean fine = bracket ? test(brackets + 1) && takeSign(')') : comparison(brackets);
            if (fine && turned) {
                text.put(Machine.NOT, 0);
            }
            return fine;
        }

        private boolean comparison(int brackets) {
            if (!sum(brackets)) {
                return false;
            }
            int operation = isSign('<') ? Machine.BELOW
                    : isSign('>') ? Machine.ABOVE
                    : isSign('=') ? Machine.ALIKE : NONE;
            if (operation == NONE) {
                return false;
            }
            step();
            if (!sum(brackets)) {
                return false;
            }
            text.put(operation, 0);
            return true;
        }

        private boolean sum(int brackets) {
            if (!term(brackets)) {
                return false;
            }
            for (int n = 0; n < MOST_BYTES && (isSign('+') || isSign('-')); n++) {
                int operation = isSign('+') ? Machine.PLUS : Machine.MINUS;
                step();
                if (!term(brackets)) {
                    return false;
                }
                text.put(operation, 0);
            }
            return true;
        }

        private boolean term(int brackets) {
            if (!part(brackets)) {
                return false;
            }
            for (int n = 0; n < MOST_BYTES && (isSign('*') || isSign('/') || isSign('%')); n++) {
                int operation = isSign('*') ? Machine.MULTIPLY
                        : isSign('/') ? Machine.DIVIDE : Machine.REMAINDER;
                step();
                if (!part(brackets)) {
                    return false;
                }
                text.put(operation, 0);
            }
            return true;
        }

        private boolean part(int brackets) {
            if (isSign('[')) {
                if (brackets >= MOST_BRACKETS) {
                    return false;
                }
                step();
                return sum(brackets + 1) && takeSign(']');
            }
            if (parts >= MOST_PARTS) {
                return false;
            }
            parts++;
            int number = number();
            if (number > MOST_NUMBER) {
                return false;
            }
            int word = number != NONE ? NONE : laws ? lawWordNumber() : orderWordNumber();
            if (number == NONE && word == NONE) {
                return false;
            }
            step();
            if (!laws && word >= TIRED_OF) {
                int reader = number();
                if (reader < 0 || reader >= MOST_READERS) {
                    return false;
                }
                step();
                word += reader;
            }
            text.put(word == NONE ? Machine.NUMBER : Machine.WORD, word == NONE ? number : word);
            return true;
        }

        private int lawWordNumber() {
            if (isWord("reader")) {
                return Heart.READER_WORD;
            }
            if (isWord("soft")) {
                return Heart.SOFT_WORD;
            }
            if (isWord("tired")) {
                return Heart.TIRED_WORD;
            }
            if (isWord("had")) {
                return Heart.HAD_WORD;
            }
            if (isWord("grief")) {
                return Heart.GRIEF_WORD;
            }
            if (isWord("joke")) {
                return Heart.JOKE_WORD;
            }
            if (isWord("weight")) {
                return Heart.WEIGHT_WORD;
            }
            if (isWord("with")) {
                return Heart.WITH_WORD;
            }
            if (isWord("day")) {
                return Heart.DAY_WORD;
            }
            return isWord("mood") ? Heart.MOOD_WORD : NONE;
        }

        private int orderWordNumber() {
            if (isWord("day")) {
                return TODAY;
            }
            if (isWord("letters")) {
                return ALL_LETTERS;
            }
            if (isWord("office")) {
                return IN_OFFICE;
            }
            if (isWord("done")) {
                return DONE;
            }
            if (isWord("paid")) {
                return LATEST;
            }
            if (isWord("tired")) {
                return TIRED_OF;
            }
            return isWord("owed") ? OWED_OF : NONE;
        }

        /** Goes to the next TOKEN; the end is an empty one at the TEXT's length. */
        private void step() {
            from = to;
            while (from < length && bytes[from] == ' ') {
                from++;
            }
            to = Math.min(from + 1, length);
            int kind = kindOfByte(from);
            while (kind != 0 && to < length && kindOfByte(to) == kind) {
                to++;
            }
        }

        /** 1 for letters, 2 for digits, 0 for what stands by itself. */
        private int kindOfByte(int place) {
            if (place >= length) {
                return 0;
            }
            int sign = bytes[place];
            return sign >= 'a' && sign <= 'z' ? 1 : sign >= '0' && sign <= '9' ? 2 : 0;
        }

        private boolean isWord(String word) {
            if (to - from != word.length()) {
                return false;
            }
            for (int k = 0; k < word.length(); k++) {
                if (bytes[from + k] != word.charAt(k)) {
                    return false;
                }
            }
            return true;
        }

        private boolean isSign(char sign) {
            return from < length && bytes[from] == sign;
        }

        private boolean takeSign(char sign) {
            if (!isSign(sign)) {
                return false;
            }
            step();
            return true;
        }

        /** The number that the TOKEN is, any above MOST_NUMBER as one more than that; NONE if it is none. */
        private int number() {
            if (kindOfByte(from) != 2) {
                return NONE;
            }
            int value = 0;
            for (int k = from; k < to; k++) {
                value = Math.min(MOST_NUMBER + 1, value * 10 + bytes[k] - '0');
            }
            return value;
        }
    }

    /** What a READER feels by the LAW in FORCE. It is told whom and what to ask of, then asked. */
    private static final class Heart {
        static final int READER_WORD = 0;
        static final int SOFT_WORD = 1;
        static final int TIRED_WORD = 2;
        static final int HAD_WORD = 3;
        static final int GRIEF_WORD = 4;
        static final int JOKE_WORD = 5;
        static final int WEIGHT_WORD = 6;
        static final int WITH_WORD = 7;
        static final int DAY_WORD = 8;
        static final int MOOD_WORD = 9;
        private static final int WORDS = 10;

        private static final int MOST_WEPT = 999;
        private static final int MOST_CHANGE = 99;
        private static final int PLAIN_REST = 3;

        final Machine machine = new Machine();
        private final int[] words = new int[WORDS];
        private Text ruling;

        void face(Text lawInForce, int[] stand, int reader) {
            ruling = lawInForce;
            words[READER_WORD] = reader;
            words[SOFT_WORD] = stand[SOFT + reader];
            words[MOOD_WORD] = stand[MOOD];
            feel(stand[TIRED + reader], stand[HAD + reader], stand[DAY]);
        }

        void feel(int tired, int had, int day) {
            words[TIRED_WORD] = tired;
            words[HAD_WORD] = had;
            words[DAY_WORD] = day;
        }

        void hold(int grief, int joke, int weight, int with) {
            words[GRIEF_WORD] = grief;
            words[JOKE_WORD] = joke;
            words[WEIGHT_WORD] = weight;
            words[WITH_WORD] = with;
        }

        /** What the last CLAUSE of a kind that HOLDS tells, the nearest of 0 to most; NONE if none HOLDS. */
        private int told(int kind, int most) {
            if (ruling == null) {
                return NONE;
            }
            for (int c = ruling.clauses - 1; c >= 0; c--) {
                if (ruling.told(c, Text.KIND) == kind && machine.run(ruling, c, Text.TEST, words) == 1) {
                    int value = machine.run(ruling, c, Text.SUM, words);
                    if (value != Machine.BROKEN) {
                        return Math.max(0, Math.min(most, value));
                    }
                }
            }
            return NONE;
        }

        int weeping() {
            int told = told(Grammar.WEEPS, MOST_WEPT);
            return told != NONE ? told
                    : Math.max(0, words[GRIEF_WORD] * words[SOFT_WORD] - words[TIRED_WORD]);
        }

        boolean laughing() {
            if (ruling != null && ruling.has(Grammar.LAUGHS)) {
                return told(Grammar.LAUGHS, 0) != NONE;
            }
            return words[JOKE_WORD] > words[GRIEF_WORD];
        }

        int paying() {
            return laughing() ? 0 : weeping();
        }

        int tiring() {
            int told = told(Grammar.TIRES, MOST_CHANGE);
            return told != NONE ? told : words[GRIEF_WORD] / 2;
        }

        boolean barred() {
            return told(Grammar.BARS, 0) != NONE;
        }

        int resting() {
            hold(NONE, NONE, NONE, NONE);
            int told = told(Grammar.RESTS, MOST_CHANGE);
            return told != NONE ? told : PLAIN_REST;
        }
    }

    /** The BEST ORDER of a READER's HELD LETTERS, and a GAME over them, on paper. */
    private static final class Search {
        // Ways that lead to the same LETTERS read and the same TIRED go on alike: what was found is
        // remembered by these, in places that later findings may take.
        private static final int PLACE_BITS = 10;
        private static final int PLACES = 1 << PLACE_BITS;
        private static final int SCATTER = 0x9E3779B1;

        private final Heart heart;
        private final int[] stand;
        private final int[] letters = new int[MOST_ON_PAPER];
        private final int[] keys = new int[PLACES];
        private final int[] findings = new int[PLACES];
        private int held;
        private int reader;
        private int tiredAfter;
        private int choice;
        int first;

        Search(Heart heart, int[] stand) {
            this.heart = heart;
            this.stand = stand;
        }

        /** Takes up a READER's HELD LETTERS; false if there are too many. */
        boolean gather(Text ruling, int whose) {
            reader = whose;
            held = 0;
            first = NONE;
            Arrays.fill(keys, NONE);
            for (int k = 0; k < stand[LETTERS]; k++) {
                if (stand[GOES_TO + k] == reader && stand[READ + k] == 0) {
                    if (held >= MOST_ON_PAPER) {
                        return false;
                    }
                    letters[held] = k;
                    held++;
                }
            }
            heart.face(ruling, stand, reader);
            return true;
        }

        /** What the BEST ORDER pays (i NONE), its i-th LETTER; NONE if there is none. */
        int bestOrder(int i) {
            int tired = stand[TIRED + reader];
            int most = mostPaid(0, tired, 0);
            if (i == NONE || most == NONE) {
                return most;
            }
            int done = 0;
            for (int n = 0; n < held && n <= i; n++) {
                mostPaid(done, tired, n);
                int k = choice;
                if (n == i) {
                    return letters[k];
                }
                readOne(letters[k], tired, n, true);
                tired = tiredAfter;
                done |= 1 << k;
            }
            return NONE;
        }

        /**
         * The most that is paid for the LETTERS that are not done, one a DAY; NONE if not all can be handed.
         * Leaves the choice: which of them is to be handed now (the lowest, of alike ones).
         */
        private int mostPaid(int done, int tired, int depth) {
            if (depth >= held) {
                return 0;
            }
            int key = done * (MOST_TIRED + 1) + tired;
            int place = key * SCATTER >>> 32 - PLACE_BITS;
            if (keys[place] != key) {
                int most = NONE;
                int best = 0;
                for (int k = 0; k < held; k++) {
                    int pays = (done >> k & 1) == 0 ? readOne(letters[k], tired, depth, true) : NONE;
                    int rest = pays != NONE ? mostPaid(done | 1 << k, tiredAfter, depth + 1) : NONE;
                    if (rest != NONE && pays + rest > most) {
                        most = pays + rest;
                        best = k;
                    }
                }
                keys[place] = key;
                findings[place] = most * MOST_ON_PAPER + best;
            }
            choice = Math.floorMod(findings[place], MOST_ON_PAPER);
            return Math.floorDiv(findings[place], MOST_ON_PAPER);
        }

        /** How much more SENDER 0 is PAID from here on; the LETTER handed first is told at depth 0. */
        private int lead(int done, int tired, int turn, int depth) {
            if (depth >= held) {
                return 0;
            }
            int key = (done * (MOST_TIRED + 1) + tired) * 2 + turn;
            int place = key * SCATTER >>> 32 - PLACE_BITS;
            if (keys[place] == key) {
                return findings[place];
            }
            int best = leadOfMoves(done, tired, turn, depth);
            if (best == NOTHING) {
                best = leadOfMoves(done, tired, 1 - turn, depth);
            }
            if (best == NOTHING) {
                best = 0;
            }
            keys[place] = key;
            findings[place] = best;
            return best;
        }

        /** The best that a SENDER can do by handing one of its own; NOTHING if there is none that can be. */
        private int leadOfMoves(int done, int tired, int who, int depth) {
            int best = NOTHING;
            for (int k = 0; k < held; k++) {
                if ((done >> k & 1) == 0 && stand[SENDER + letters[k]] == who) {
                    int pays = readOne(letters[k], tired, depth, false);
                    if (pays != NONE) {
                        int rest = lead(done | 1 << k, tiredAfter, 1 - who, depth + 1);
                        int value = who == 0 ? rest + pays : rest - pays;
                        if (best == NOTHING || (who == 0 ? value > best : value < best)) {
                            best = value;
                            first = depth == 0 ? letters[k] : first;
                        }
                    }
                }
            }
            return best;
        }

        /** What is paid for a LETTER behind so many others; NONE if it is BARRED. Leaves how TIRED one is then. */
        private int readOne(int letter, int tired, int others, boolean dayGoesBy) {
            int had = stand[HAD + reader] + others;
            int day = dayGoesBy ? Math.min(LAST_DAY, stand[DAY] + others) : stand[DAY];
            heart.feel(tired, had, day);
            heart.hold(stand[GRIEF + letter], stand[JOKE + letter], stand[WEIGHT + letter], 1);
            if (heart.barred()) {
                return NONE;
            }
            int pays = heart.laughing() ? 0 : heart.weeping();
            tiredAfter = Math.min(MOST_TIRED, tired + heart.tiring());
            if (dayGoesBy) {
                heart.feel(tiredAfter, had + 1, day);
                tiredAfter = Math.max(0, tiredAfter - heart.resting());
            }
            return pays;
        }
    }

    /** WHO JOKED: the sets of HELD LETTERS that can have been jokes, by the LEDGERS. */
    private static final class Suspects {
        private final Heart heart;
        private final World world;
        private final int[] sheet;
        private final int[] tears = new int[MOST_LETTERS];
        private final int[] paid = new int[MOST_READERS];
        private int held;

        Suspects(Heart heart, World world, int[] sheet) {
            this.heart = heart;
            this.world = world;
            this.sheet = sheet;
        }

        /**
         * Hands all HELD LETTERS on the sheet, and notes what is wept for each of them. One is as TIRED by a joke
         * as without it, and no LAW can ask what was paid: what one weeps is the same whichever were jokes.
         */
        void gather() {
            System.arraycopy(world.stand, 0, sheet, 0, STAND);
            held = 0;
            for (int k = 0; k < sheet[LETTERS]; k++) {
                tears[k] = 0;
                if (sheet[READ + k] == 0) {
                    int reader = sheet[GOES_TO + k];
                    heart.face(world.ruling(), sheet, reader);
                    heart.hold(sheet[GRIEF + k], sheet[JOKE + k], sheet[WEIGHT + k], 1);
                    tears[k] = heart.weeping();
                    sheet[TIRED + reader] = Math.min(MOST_TIRED, sheet[TIRED + reader] + heart.tiring());
                    sheet[HAD + reader]++;
                    held |= 1 << k;
                }
            }
        }

        /** How many sets there are (i NONE), the i-th as bits; NONE if there are not so many. */
        int sets(int i) {
            int found = 0;
            for (int jokes = 0; jokes <= held; jokes++) {
                if ((jokes & ~held) == 0 && ledgersAreSo(jokes)) {
                    if (found == i) {
                        return jokes;
                    }
                    found++;
                }
            }
            return i == NONE ? found : NONE;
        }

        private boolean ledgersAreSo(int jokes) {
            for (int r = 0; r < sheet[READERS]; r++) {
                paid[r] = sheet[PAID + r];
            }
            for (int k = 0; k < sheet[LETTERS]; k++) {
                paid[sheet[GOES_TO + k]] += (jokes >> k & 1) == 0 ? tears[k] : 0;
            }
            for (int r = 0; r < sheet[READERS]; r++) {
                if (world.ledgers[r] != NONE && world.ledgers[r] != paid[r]) {
                    return false;
                }
            }
            return true;
        }
    }

    /** The fewest BAGS for all HELD LETTERS. */
    private static final class Bags {
        private static final int FILL_BITS = 7;
        private static final int UNPACKED = 1 << 30;

        private final int[] letters = new int[MOST_LETTERS];
        // For each set of HELD LETTERS: the fewest bags, then how little the last of them holds.
        private final int[] least = new int[1 << MOST_LETTERS];
        private int held;

        /** Works out the fewest bags of every set; false if one LETTER is too heavy. */
        boolean pack(int[] stand, int limit) {
            held = 0;
            for (int k = 0; k < stand[LETTERS]; k++) {
                if (stand[READ + k] == 0) {
                    if (stand[WEIGHT + k] > limit) {
                        return false;
                    }
                    letters[held] = k;
                    held++;
                }
            }
            least[0] = 0;
            for (int set = 1; set < 1 << held; set++) {
                least[set] = UNPACKED;
                for (int k = 0; k < held; k++) {
                    if ((set >> k & 1) == 1) {
                        int more = withOneMore(least[set ^ 1 << k], stand[WEIGHT + letters[k]], limit);
                        least[set] = Math.min(least[set], more);
                    }
                }
            }
            return true;
        }

        private static int withOneMore(int packed, int weight, int limit) {
            int fill = packed & (1 << FILL_BITS) - 1;
            if (packed > 0 && fill + weight <= limit) {
                return packed + weight;
            }
            return ((packed >> FILL_BITS) + 1 << FILL_BITS) + weight;
        }

        int fewest() {
            return least[(1 << held) - 1] >> FILL_BITS;
        }

        /** The lowest set that fits into one bag and leaves what one bag less can hold, as bits of LETTERS. */
        int firstBag() {
            int all = (1 << held) - 1;
            for (int set = 1; set <= all; set++) {
                if (least[set] >> FILL_BITS == 1 && least[all ^ set] >> FILL_BITS == fewest() - 1) {
                    return asLetters(set);
                }
            }
            return 0;
        }

        private int asLetters(int set) {
            int bits = 0;
            for (int k = 0; k < held; k++) {
                bits |= (set >> k & 1) << letters[k];
            }
            return bits;
        }
    }
}
