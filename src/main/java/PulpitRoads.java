/**
 * Pulpits on wheels, that come round by road: a ring of stretches with a gate at each, the pulpits
 * on it, what the gates heard, and what is foretold of them.
 *
 * <p>All rows are made once, in the constructors, and used again: no call makes an object.
 */
public final class PulpitRoads {
    public static final int NONE = -1000000, BAD = -1000001, STATE = -1000002, FULL = -1000003;

    private static final int FOUND = -1000010, FAULTY = -1000100;
    private static final int NULL_FOUND = 1, PLACE_FOUND = 2, KIND_FOUND = 3, SIZE_FOUND = 4, STORE_FOUND = 5;

    private static final int ROWS = 8, LANES = 3, MOST_ITEMS = 40, MOST_BYTES = 90;
    private static final int LEAST_STRETCHES = 3, MOST_STRETCHES = 9, MOST_PULPITS = 5;
    private static final int LEAST_WORDS = 4, MOST_WORDS = 16, GRADES = 3;
    private static final int MOST_ACTS = 24, MOST_HOURS = 24, LAST_HOUR = 9999, IMAGES = 2;
    private static final int FARTHEST = 60, FARTHEST_ROUND = 200, LONGEST_PUT = 30, LONGEST_WALK = 8, LONGEST_ROW = 12;
    private static final int TENTHS = 10, MOST_SEED = 999999;
    private static final long DRAW_TIMES = 16807L, DRAW_REST = 2147483647L;

    private static final int KINDS = 6, BOX = 1, BACK = 2, PONY = 3, DOOR = 4, ECHO = 5;
    private static final int SIZE = 0, MARK = 1, ASKS = 2;

    /** How many words a stretch of each grade lets a pulpit say. */
    private static final int[] LETS = {3, 1, 4};

    /** What each kind is, too; a PULPIT is nothing else. */
    private static final int[] KIND_ABOVE = {0, 0, 1, 1, 0, 4};

    /** The body told for each kind, 0 where the kind has none of its own. */
    private static final int[] SIZE_BODIES = {10, 11, 12, 0, 13, 14};
    private static final int[] MARK_BODIES = {20, 21, 24, 22, 23, 0};

    private final Row[] rows = new Row[ROWS];
    private final Tape tape = new Tape();
    private final Road now = new Road();
    private final Road foretold = new Road();
    /** What is said on each stretch, hour by hour, for one who walks. */
    private final int[] saidAhead = new int[LONGEST_WALK * MOST_STRETCHES];
    private final Road[] images = new Road[IMAGES];
    private final Acts acts = new Acts();
    private final Bodies bodies = new Bodies();
    private int latestFault;
    private int latestFinding;

    public PulpitRoads() {
        for (int r = 0; r < ROWS; r++) {
            rows[r] = new Row();
        }
        for (int k = 0; k < IMAGES; k++) {
            images[k] = new Road();
        }
    }

    // ---- rows

    public int row(int row, int lane, int n) {
        if (!isRow(row) || lane < 0 || lane >= LANES || n > MOST_ITEMS) {
            return BAD;
        }
        if (n < 0) {
            return found(SIZE_FOUND);
        }
        rows[row].begin(lane, n);
        return foundNothing(n);
    }

    public int set(int row, int i, int v) {
        if (!isRow(row)) {
            return BAD;
        }
        Row there = rows[row];
        if (there.missing) {
            return found(NULL_FOUND);
        }
        if (!there.hasPlaces(i, 1)) {
            return found(PLACE_FOUND);
        }
        there.items[i] = there.cut(v);
        return foundNothing(there.items[i]);
    }

    public int copy(int a, int i, int b, int j, int n) {
        if (!isRow(a) || !isRow(b)) {
            return BAD;
        }
        Row from = rows[a];
        Row to = rows[b];
        if (from.missing || to.missing) {
            return found(NULL_FOUND);
        }
        if (from.lane != to.lane) {
            return found(STORE_FOUND);
        }
        if (!from.hasPlaces(i, n) || !to.hasPlaces(j, n)) {
            return found(PLACE_FOUND);
        }
        System.arraycopy(from.items, i, to.items, j, n);
        return foundNothing(n);
    }

    public int drop(int row) {
        if (!isRow(row)) {
            return BAD;
        }
        Row there = rows[row];
        if (there.missing) {
            return found(NULL_FOUND);
        }
        there.missing = true;
        return foundNothing(there.length);
    }

    // ---- roads, acts

    public int feed(int letter) {
        if (letter < 0 || letter > 255) {
            return BAD;
        }
        if (tape.length >= MOST_BYTES) {
            return FULL;
        }
        tape.add(letter);
        return tape.length;
    }

    public int road() {
        boolean read = tape.readInto(foretold);
        tape.length = 0;
        if (!read) {
            latestFault = tape.faultNumber;
            return FAULTY - tape.place;
        }
        now.take(foretold);
        acts.kept = 0;
        return now.pulpits;
    }

    public int fault() {
        return latestFault;
    }

    public int hours(int n) {
        if (!now.stands) {
            return STATE;
        }
        if (n < 1 || n > MOST_HOURS) {
            return BAD;
        }
        if (now.hour + n > LAST_HOUR) {
            return FULL;
        }
        for (int h = 0; h < n; h++) {
            acts.keep(now);
            now.goHour();
        }
        return now.wholeGates();
    }

    public int put(int pulpit, int stretch) {
        if (!isPulpit(pulpit) || !isStretch(stretch)) {
            return BAD;
        }
        int was = now.at[pulpit];
        if (was == stretch) {
            return STATE;
        }
        acts.keep(now);
        now.at[pulpit] = stretch;
        return was;
    }

    public int skip(int pulpit, int word) {
        if (!isPulpit(pulpit) || !isWord(word)) {
            return BAD;
        }
        int was = now.word[pulpit];
        acts.keep(now);
        now.word[pulpit] = word;
        return was;
    }

    public int forget(int gate) {
        if (!isStretch(gate)) {
            return BAD;
        }
        int was = Integer.bitCount(now.heardAt[gate]);
        if (was == 0) {
            return STATE;
        }
        acts.keep(now);
        now.heardAt[gate] = 0;
        return was;
    }

    public int undo() {
        if (acts.kept == 0) {
            return STATE;
        }
        acts.giveBack(now);
        return acts.kept;
    }

    public int pulpit(int pulpit, int what) {
        if (!isPulpit(pulpit)) {
            return BAD;
        }
        switch (what) {
            case 0:
                return now.at[pulpit];
            case 1:
                return now.word[pulpit];
            case 2:
                return now.councils() >> pulpit & 1;
            case 3:
                return now.sayings(pulpit);
            default:
                return BAD;
        }
    }

    public int stretch(int stretch, int what) {
        if (!isStretch(stretch)) {
            return BAD;
        }
        switch (what) {
            case 0:
                return now.grade[stretch];
            case 1:
                return now.heardAt[stretch];
            case 2:
                return now.pulpitsOn(stretch);
            default:
                return BAD;
        }
    }

    // ---- foretold

    public int ahead(int pulpit, int d, int what) {
        if (!isPulpit(pulpit) || !isWithin(d, 0, FARTHEST) || !isWithin(what, 0, 1)) {
            return BAD;
        }
        foretell(d);
        return what == 0 ? foretold.at[pulpit] : foretold.word[pulpit];
    }

    public int heard(int gate, int d) {
        if (!isStretch(gate) || !isWithin(d, 0, FARTHEST)) {
            return BAD;
        }
        foretell(d);
        return foretold.heardAt[gate];
    }

    public int whole(int gate) {
        if (!isStretch(gate)) {
            return BAD;
        }
        return hoursToWhole(1 << gate);
    }

    public int first(int what) {
        if (!now.stands) {
            return STATE;
        }
        if (!isWithin(what, 0, 1)) {
            return BAD;
        }
        int hours = hoursToWhole((1 << now.stretches) - 1);
        if (hours == NONE || what == 1) {
            return hours;
        }
        return leastOf(foretold.wholeGates());
    }

    public int left(int n) {
        if (!now.stands) {
            return STATE;
        }
        if (!isWithin(n, 0, FARTHEST)) {
            return BAD;
        }
        foretell(n);
        return foretold.allWords() & ~foretold.heardAtAny((1 << foretold.stretches) - 1);
    }

    public int meet(int one, int other) {
        if (!isPulpit(one) || !isPulpit(other) || one == other) {
            return BAD;
        }
        foretell(0);
        for (int d = 0; d <= FARTHEST; d++) {
            if (foretold.at[one] == foretold.at[other]) {
                return d;
            }
            foretold.goHour();
        }
        return NONE;
    }

    public int round() {
        if (!now.stands) {
            return STATE;
        }
        foretell(0);
        for (int d = 1; d <= FARTHEST_ROUND; d++) {
            foretold.goHour();
            if (foretold.hasPulpitsAs(now)) {
                return d;
            }
        }
        return NONE;
    }

    public int best(int pulpit, int gate, int n, int what) {
        if (!isPulpit(pulpit) || !isStretch(gate) || !isWithin(n, 1, LONGEST_PUT) || !isWithin(what, 0, 1)) {
            return BAD;
        }
        int most = -1;
        int where = 0;
        for (int s = 0; s < now.stretches; s++) {
            foretold.take(now);
            foretold.at[pulpit] = s;
            foretold.goHours(n);
            int words = Integer.bitCount(foretold.heardAt[gate]);
            if (words > most) {
                most = words;
                where = s;
            }
        }
        return what == 0 ? where : most;
    }

    public int piece(int what) {
        if (!now.stands) {
            return STATE;
        }
        if (!isWithin(what, 0, 1)) {
            return BAD;
        }
        int fewest = NONE;
        int which = NONE;
        for (int gates = 1; gates < 1 << now.stretches; gates++) {
            int many = Integer.bitCount(gates);
            if ((fewest == NONE || many < fewest) && now.heardAtAny(gates) == now.allWords()) {
                fewest = many;
                which = gates;
            }
        }
        return what == 0 ? fewest : which;
    }

    public int walk(int stretch, int n, int what) {
        if (!isStretch(stretch) || !isWithin(n, 1, LONGEST_WALK) || !isWithin(what, 0, 1)) {
            return BAD;
        }
        foretellSayings(n);
        int most = -1;
        int way = 0;
        for (int bits = 0; bits < 1 << n; bits++) {
            int words = Integer.bitCount(heardOnWay(stretch, n, bits));
            if (words > most) {
                most = words;
                way = bits;
            }
        }
        return what == 0 ? most : way;
    }

    public int fits(int pulpit, int row, int i, int n, int what) {
        if (!isPulpit(pulpit) || !isRow(row) || !isWithin(n, 1, LONGEST_ROW) || !isWithin(what, 0, 3)) {
            return BAD;
        }
        Row told = rows[row];
        if (told.missing) {
            return found(NULL_FOUND);
        }
        if (!told.hasPlaces(i, n)) {
            return found(PLACE_FOUND);
        }
        int bits = 0;
        int end = guessEnd(what);
        for (int guess = what == 0 ? 1 : 0; guess < end; guess++) {
            foretold.take(now);
            suppose(pulpit, what, guess);
            if (goesAsTold(pulpit, told, i, n)) {
                bits |= 1 << guess;
            }
        }
        return foundNothing(bits);
    }

    public int axles(int gate, int word, int c, int what) {
        if (!isStretch(gate) || !isWord(word) || !isWithin(c, 0, TENTHS) || !isWithin(what, 0, 1)) {
            return BAD;
        }
        int above = tenthsOfHearing(gate, word, c);
        int divisor = commonDivisor(above, TENTHS);
        return (what == 0 ? above : TENTHS) / divisor;
    }

    public int drawn(int n, int seed, int what) {
        if (!now.stands) {
            return STATE;
        }
        if (!isWithin(n, 0, FARTHEST) || !isWithin(seed, 1, MOST_SEED) || !isWithin(what, 0, 1)) {
            return BAD;
        }
        foretell(0);
        long x = seed;
        for (int h = 0; h < n; h++) {
            x = x * DRAW_TIMES % DRAW_REST;
            putByDraw(x);
            foretold.goHour();
        }
        return what == 0 ? foretold.wordsHeard() : Integer.bitCount(foretold.wholeGates());
    }

    public int image(int k) {
        if (!isWithin(k, 0, IMAGES - 1)) {
            return BAD;
        }
        if (!now.stands) {
            return STATE;
        }
        images[k].take(now);
        return 1;
    }

    public int restore(int k) {
        if (!isWithin(k, 0, IMAGES - 1)) {
            return BAD;
        }
        if (!images[k].stands) {
            return STATE;
        }
        now.take(images[k]);
        acts.kept = 0;
        return 1;
    }

    // ---- asked

    public int kind(int pulpit) {
        return isPulpit(pulpit) ? now.kindOf[pulpit] : BAD;
    }

    public int as(int pulpit, int kind) {
        if (!isPulpit(pulpit) || !isWithin(kind, 0, KINDS - 1)) {
            return BAD;
        }
        return isSuch(now.kindOf[pulpit], kind) ? foundNothing(pulpit) : found(KIND_FOUND);
    }

    public int ask(int pulpit, int what) {
        if (!isPulpit(pulpit) || !isWithin(what, 0, ASKS - 1)) {
            return BAD;
        }
        bodies.traced = 0;
        return bodies.begin(now, pulpit, what, 0);
    }

    public int trace(int i) {
        return i >= 0 && i < bodies.traced ? bodies.numbers[i] : NONE;
    }

    public int count(int what) {
        switch (what) {
            case 0:
                return rowsThere();
            case 1:
                return now.stretches;
            case 2:
                return now.pulpits;
            case 3:
                return now.hour;
            case 4:
                return now.words;
            case 5:
                return now.hard;
            case 6:
                return acts.kept;
            case 7:
                return tape.length;
            case 8:
                return now.wholeGates();
            case 9:
                return now.wordsHeard();
            default:
                return BAD;
        }
    }

    public int status() {
        return latestFinding;
    }

    // ---- what is looked at ahead of an answer; of no road there are no pulpits, stretches, words

    private static boolean isWithin(int v, int least, int most) {
        return v >= least && v <= most;
    }

    private static boolean isRow(int row) {
        return row >= 0 && row < ROWS;
    }

    private boolean isPulpit(int pulpit) {
        return pulpit >= 0 && pulpit < now.pulpits;
    }

    private boolean isStretch(int stretch) {
        return stretch >= 0 && stretch < now.stretches;
    }

    private boolean isWord(int word) {
        return word >= 0 && word < now.words;
    }

    private int found(int finding) {
        latestFinding = finding;
        return FOUND - finding;
    }

    private int foundNothing(int answer) {
        latestFinding = 0;
        return answer;
    }

    private int rowsThere() {
        int there = 0;
        for (int r = 0; r < ROWS; r++) {
            if (!rows[r].missing) {
                there++;
            }
        }
        return there;
    }

    // ---- what foretelling is made of

    private void foretell(int d) {
        foretold.take(now);
        foretold.goHours(d);
    }

    /** Leaves the foretold road as it is when one of these gates first heard all. */
    private int hoursToWhole(int gates) {
        foretell(0);
        for (int d = 0; d <= FARTHEST; d++) {
            if ((foretold.wholeGates() & gates) != 0) {
                return d;
            }
            foretold.goHour();
        }
        return NONE;
    }

    private static int leastOf(int gates) {
        for (int g = 0; g < MOST_STRETCHES; g++) {
            if ((gates >> g & 1) != 0) {
                return g;
            }
        }
        return NONE;
    }

    private void foretellSayings(int n) {
        foretell(0);
        for (int h = 0; h < n; h++) {
            foretold.goHour();
            for (int s = 0; s < foretold.stretches; s++) {
                saidAhead[h * MOST_STRETCHES + s] = foretold.saidNow[s];
            }
        }
    }

    private int heardOnWay(int stretch, int n, int way) {
        int where = stretch;
        int words = 0;
        for (int h = 0; h < n; h++) {
            if ((way >> h & 1) != 0) {
                where = foretold.nextOf(where);
            }
            words |= saidAhead[h * MOST_STRETCHES + where];
        }
        return words;
    }

    private int guessEnd(int what) {
        if (what == 0) {
            return KINDS;
        }
        return what == 1 ? now.stretches : now.words;
    }

    private void suppose(int pulpit, int what, int guess) {
        if (what == 0) {
            foretold.kindOf[pulpit] = guess;
        } else if (what == 1) {
            foretold.at[pulpit] = guess;
        } else if (what == 2) {
            foretold.hard = guess;
        } else {
            foretold.word[pulpit] = guess;
        }
    }

    private boolean goesAsTold(int pulpit, Row told, int i, int n) {
        for (int h = 0; h < n; h++) {
            foretold.goHour();
            if (foretold.at[pulpit] != told.items[i + h]) {
                return false;
            }
        }
        return true;
    }

    /** At most one pulpit on a stretch is not in council, so no two chances are to be joined. */
    private int tenthsOfHearing(int gate, int word, int c) {
        if ((now.heardAt[gate] >> word & 1) != 0) {
            return TENTHS;
        }
        int councils = now.councils();
        for (int p = 0; p < now.pulpits; p++) {
            boolean passes = now.at[p] == gate && (councils >> p & 1) == 0;
            if (passes && (now.sayings(p) >> word & 1) != 0) {
                return TENTHS - c;
            }
        }
        return 0;
    }

    private static int commonDivisor(int a, int b) {
        for (int d = TENTHS; d > 1; d--) {
            if (a % d == 0 && b % d == 0) {
                return d;
            }
        }
        return 1;
    }

    private void putByDraw(long x) {
        if (x % 3 == 0 && foretold.pulpits > 0 && foretold.stretches > 0) {
            int pulpit = (int) (x % foretold.pulpits);
            foretold.at[pulpit] = (int) (x % foretold.stretches);
        }
    }

    private static boolean isSuch(int kind, int asked) {
        int is = kind;
        for (int step = 0; step < KINDS; step++) {
            if (is == asked) {
                return true;
            }
            is = KIND_ABOVE[is];
        }
        return false;
    }

    /** A row of numbers, whose room stays while the row is missing. */
    private static final class Row {
        private final int[] items = new int[MOST_ITEMS];
        private boolean missing = true;
        private int lane;
        private int length;

        private void begin(int newLane, int n) {
            missing = false;
            lane = newLane;
            length = n;
            for (int i = 0; i < n; i++) {
                items[i] = 0;
            }
        }

        private boolean hasPlaces(int i, int n) {
            return i >= 0 && n >= 0 && i <= length && n <= length - i;
        }

        private int cut(int v) {
            if (lane == 0) {
                return (byte) v;
            }
            return lane == 1 ? (short) v : v;
        }
    }

    /** The tape, and the reading of it; a fault is left as its number and the place it is at. */
    private static final class Tape {
        private final int[] bytes = new int[MOST_BYTES];
        private int length;
        private int place;
        private int faultNumber;

        private void add(int letter) {
            if (length < MOST_BYTES) {
                bytes[length] = letter;
                length++;
            }
        }

        private boolean readInto(Road draft) {
            draft.begin();
            place = 0;
            faultNumber = 0;
            return readLaw(draft) && readStretches(draft) && readPulpits(draft);
        }

        private boolean readLaw(Road draft) {
            if (!takeSign('p')) {
                return false;
            }
            draft.words = takeNumber(LEAST_WORDS, MOST_WORDS);
            if (faultNumber != 0 || !takeSign(',')) {
                return false;
            }
            draft.hard = takeNumber(0, draft.words - 1);
            return faultNumber == 0 && takeSign(';');
        }

        private boolean readStretches(Road draft) {
            for (int s = 0; s < MOST_STRETCHES; s++) {
                if (s >= LEAST_STRETCHES && letterHere() != 'r') {
                    return true;
                }
                if (!takeSign('r')) {
                    return false;
                }
                draft.grade[s] = takeNumber(0, GRADES - 1);
                if (faultNumber != 0 || !takeSign(';')) {
                    return false;
                }
                draft.stretches = s + 1;
            }
            return letterHere() != 'r' || blame(3);
        }

        private boolean readPulpits(Road draft) {
            for (int p = 0; p < MOST_PULPITS; p++) {
                if (place == length) {
                    return true;
                }
                int kind = kindHere();
                if (kind == 0) {
                    return blame(1);
                }
                place++;
                if (!readPulpit(draft, p)) {
                    return false;
                }
                draft.kindOf[p] = kind;
                draft.pulpits = p + 1;
            }
            return place == length || blame(kindHere() == 0 ? 1 : 3);
        }

        private boolean readPulpit(Road draft, int p) {
            draft.at[p] = takeNumber(0, draft.stretches - 1);
            if (faultNumber != 0 || !takeSign(',')) {
                return false;
            }
            draft.word[p] = takeNumber(0, draft.words - 1);
            return faultNumber == 0 && takeSign(';');
        }

        private int letterHere() {
            return letterAt(place);
        }

        private int letterAt(int i) {
            return i >= 0 && i < length ? bytes[i] : -1;
        }

        private boolean isFigure(int i) {
            int letter = letterAt(i);
            return letter >= '0' && letter <= '9';
        }

        private int kindHere() {
            switch (letterHere()) {
                case 'b':
                    return BOX;
                case 'k':
                    return BACK;
                case 'y':
                    return PONY;
                case 'd':
                    return DOOR;
                case 'e':
                    return ECHO;
                default:
                    return 0;
            }
        }

        private boolean takeSign(int sign) {
            if (letterHere() != sign) {
                return blame(1);
            }
            place++;
            return true;
        }

        /** The least one in place of a number that has a fault, so that no draft is ever out of its limits. */
        private int takeNumber(int least, int most) {
            if (!isFigure(place) || isFigure(place + 1) && isFigure(place + 2)) {
                blame(1);
                return least;
            }
            int number = bytes[place] - '0';
            int end = place + 1;
            if (isFigure(end)) {
                number = number * 10 + bytes[end] - '0';
                end++;
            }
            if (number < least || number > most) {
                blame(2);
                return least;
            }
            place = end;
            return number;
        }

        private boolean blame(int number) {
            faultNumber = number;
            return false;
        }
    }

    /** A road with its pulpits and gates, and how an hour goes on it. */
    private static final class Road {
        private boolean stands;
        private int words;
        private int hard;
        private int hour;
        private int stretches;
        private int pulpits;
        private final int[] grade = new int[MOST_STRETCHES];
        private final int[] heardAt = new int[MOST_STRETCHES];
        private final int[] kindOf = new int[MOST_PULPITS];
        private final int[] at = new int[MOST_PULPITS];
        private final int[] word = new int[MOST_PULPITS];
        /** What is said on each stretch in the latest hour that was gone. */
        private final int[] saidNow = new int[MOST_STRETCHES];

        /** A road without stretches or pulpits yet, on which nothing was heard. */
        private void begin() {
            stands = true;
            hour = 0;
            stretches = 0;
            pulpits = 0;
            for (int s = 0; s < MOST_STRETCHES; s++) {
                heardAt[s] = 0;
            }
        }

        private void take(Road other) {
            stands = other.stands;
            words = other.words;
            hard = other.hard;
            hour = other.hour;
            stretches = other.stretches;
            pulpits = other.pulpits;
            for (int s = 0; s < MOST_STRETCHES; s++) {
                grade[s] = other.grade[s];
                heardAt[s] = other.heardAt[s];
            }
            for (int p = 0; p < MOST_PULPITS; p++) {
                kindOf[p] = other.kindOf[p];
                at[p] = other.at[p];
                word[p] = other.word[p];
            }
        }

        private int nextOf(int stretch) {
            return stretch + 1 < stretches ? stretch + 1 : 0;
        }

        private int beforeOf(int stretch) {
            return stretch > 0 ? stretch - 1 : stretches - 1;
        }

        private int allWords() {
            return (1 << words) - 1;
        }

        private void goHours(int n) {
            for (int h = 0; h < n; h++) {
                goHour();
            }
        }

        private void goHour() {
            int councils = councils();
            for (int s = 0; s < stretches; s++) {
                saidNow[s] = 0;
            }
            for (int p = 0; p < pulpits; p++) {
                if ((councils >> p & 1) == 0) {
                    pass(p);
                }
            }
            hour++;
        }

        /** Pulpits (bits) on whose stretch there is one of a lesser number. */
        private int councils() {
            int taken = 0;
            int councils = 0;
            for (int p = 0; p < pulpits; p++) {
                if ((taken >> at[p] & 1) != 0) {
                    councils |= 1 << p;
                }
                taken |= 1 << at[p];
            }
            return councils;
        }

        private void pass(int p) {
            int here = at[p];
            int said = sayings(p);
            saidNow[here] |= said;
            heardAt[here] |= said;
            word[p] = wordBehind(p);
            at[p] = stretchBehind(p, said);
        }

        /** Words (bits) that a pulpit says where it is. */
        private int sayings(int p) {
            if (kindOf[p] == DOOR) {
                return 0;
            }
            int said = 0;
            int next = word[p];
            for (int i = 0; i < LETS[grade[at[p]]]; i++) {
                said |= 1 << next;
                next = wordAfter(p, next);
            }
            return said;
        }

        private int wordBehind(int p) {
            int next = word[p];
            if (kindOf[p] != DOOR) {
                for (int i = 0; i < LETS[grade[at[p]]]; i++) {
                    next = wordAfter(p, next);
                }
            }
            return next;
        }

        private int wordAfter(int p, int said) {
            if (kindOf[p] == ECHO) {
                return said > 0 ? said - 1 : words - 1;
            }
            return said + 1 < words ? said + 1 : 0;
        }

        private int stretchBehind(int p, int said) {
            if (kindOf[p] == BACK) {
                return beforeOf(at[p]);
            }
            boolean stops = kindOf[p] == PONY && (said >> hard & 1) != 0;
            return stops ? at[p] : nextOf(at[p]);
        }

        private int pulpitsOn(int stretch) {
            int there = 0;
            for (int p = 0; p < pulpits; p++) {
                if (at[p] == stretch) {
                    there |= 1 << p;
                }
            }
            return there;
        }

        private boolean hasPulpitsAs(Road other) {
            for (int p = 0; p < pulpits; p++) {
                if (at[p] != other.at[p] || word[p] != other.word[p]) {
                    return false;
                }
            }
            return true;
        }

        /** Gates (bits) that heard all words. */
        private int wholeGates() {
            int whole = 0;
            for (int s = 0; s < stretches; s++) {
                if (heardAt[s] == allWords()) {
                    whole |= 1 << s;
                }
            }
            return whole;
        }

        private int heardAtAny(int gates) {
            int heardThere = 0;
            for (int s = 0; s < stretches; s++) {
                if ((gates >> s & 1) != 0) {
                    heardThere |= heardAt[s];
                }
            }
            return heardThere;
        }

        private int wordsHeard() {
            int heardInAll = 0;
            for (int s = 0; s < stretches; s++) {
                heardInAll += Integer.bitCount(heardAt[s]);
            }
            return heardInAll;
        }
    }

    /** What was ahead of each act, in a ring, so that the oldest gives way to the newest. */
    private static final class Acts {
        private static final int WIDTH = 1 + MOST_STRETCHES + 2 * MOST_PULPITS;

        private final int[] ring = new int[MOST_ACTS * WIDTH];
        private int kept;
        private int end;

        private void keep(Road road) {
            int i = end * WIDTH;
            ring[i++] = road.hour;
            for (int s = 0; s < MOST_STRETCHES; s++) {
                ring[i++] = road.heardAt[s];
            }
            for (int p = 0; p < MOST_PULPITS; p++) {
                ring[i++] = road.at[p];
                ring[i++] = road.word[p];
            }
            end = end + 1 < MOST_ACTS ? end + 1 : 0;
            kept = Math.min(kept + 1, MOST_ACTS);
        }

        private void giveBack(Road road) {
            end = end > 0 ? end - 1 : MOST_ACTS - 1;
            kept--;
            int i = end * WIDTH;
            road.hour = ring[i++];
            for (int s = 0; s < MOST_STRETCHES; s++) {
                road.heardAt[s] = ring[i++];
            }
            for (int p = 0; p < MOST_PULPITS; p++) {
                road.at[p] = ring[i++];
                road.word[p] = ring[i++];
            }
        }
    }

    /** The bodies by which asks are answered, and the trace they leave. */
    private static final class Bodies {
        private static final int MOST_TRACED = 16, DEEPEST = 16;

        private final int[] numbers = new int[MOST_TRACED];
        private int traced;

        private int begin(Road road, int pulpit, int what, int depth) {
            return give(bodyOf(road.kindOf[pulpit], what), road, pulpit, depth);
        }

        private static int bodyOf(int kind, int what) {
            int[] told = what == SIZE ? SIZE_BODIES : MARK_BODIES;
            int is = kind;
            for (int step = 0; step < KINDS && told[is] == 0; step++) {
                is = KIND_ABOVE[is];
            }
            return told[is];
        }

        private int give(int body, Road road, int pulpit, int depth) {
            if (depth > DEEPEST) {
                return 0;
            }
            leave(body);
            int deeper = depth + 1;
            switch (body) {
                case 10:
                    return road.word[pulpit];
                case 11:
                    return give(10, road, pulpit, deeper) + begin(road, pulpit, MARK, deeper);
                case 12:
                    return -give(11, road, pulpit, deeper);
                case 13:
                    return give(10, road, pulpit, deeper) - 100;
                case 14:
                    return 2 * give(13, road, pulpit, deeper);
                case 20:
                    return pulpit;
                case 21:
                    return give(20, road, pulpit, deeper) + road.at[pulpit];
                case 22:
                    return give(21, road, pulpit, deeper) - 1000;
                case 23:
                    return give(20, road, pulpit, deeper) - begin(road, pulpit, SIZE, deeper);
                case 24:
                    return 2 * give(21, road, pulpit, deeper);
                default:
                    return 0;
            }
        }

        private void leave(int number) {
            if (traced < MOST_TRACED) {
                numbers[traced] = number;
                traced++;
            }
        }
    }
}
