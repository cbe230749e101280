/**
 * The A goes round: an oboe gives it, each desk takes it from whom it hears, a little off.
 * The words in capitals in the comments are those of the document's terms.
 */
public final class RoundOfTheA {
    public static final int BAD = -1, NO = -2, FULL = -3, NONE = -4;

    private static final String FIRST_TEXT =
        "d0,4,10,9;d0,4,10,0;d1,3,5,9;d2,3,1,9;d3,2,20,1;p0,25;p3,22;g1,1;g4,2;o9,1;w1;h3;";

    private static final int MOST_LETTERS = 200;
    private static final int MOST_DESKS = 8;
    private static final int MOST_NUMBERS = 4;
    private static final int GROUPS = 5;
    private static final int MOST_UNDONE = 8;
    private static final int MOST_KEPT = 2;
    private static final int MOST_TOGETHER = 8;

    private static final int STRING = 0;
    private static final int WIND = 1;
    private static final int FIXED = 2;
    private static final int HARP = 3;

    private static final int NEEDLE = 8;
    private static final int OBOE = 9;
    private static final int NOBODY = -1;

    // More than any SPREAD, seconds or HAIRS can be.
    private static final int FAR = 1000000;

    private static final int MINUTE = 60;
    private static final int MOST_MINUTES = 60;
    private static final int MOST_SECONDS = 99999;
    private static final int MOST_WAITED = 99;
    private static final int MOST_OFF = 999;
    private static final int TOLD_MORE = 1000;
    private static final int LEAN_TOLD_MORE = 100;

    private static final int MOST_STRINGS = 9;
    private static final int FIFTH_HAIRS = 2;
    private static final int MOST_RAISED = 20;

    private static final int MOST_SUM_TOLD = 400;
    private static final int SUM_TOLD_MORE = 200;
    private static final int MOST_SLIP = 9;
    private static final int SLIPS_A_DESK = 20;
    private static final int PEG_HAIRS = 4;
    private static final int TENTHS = 10;
    private static final int MOST_EVENING = 9999;
    private static final int DRAW_MODULUS = 65521;

    private final int[] text = new int[MOST_LETTERS];
    private int letters = 0;
    private final TextReader reader = new TextReader();

    private Hall hall = new Hall();
    private Hall toldHall = new Hall();
    private final State now = new State();
    private final Shelf undone = new Shelf(MOST_UNDONE);
    private final Shelf kept = new Shelf(MOST_KEPT);

    private final int[] togetherSets = new int[MOST_TOGETHER];
    private final int[] togetherSums = new int[MOST_TOGETHER];
    private int togetherCount = 0;

    // The trial is where what would be is tried, so that what is stays as it is.
    private final Tuner tuner = new Tuner();
    private final State trial = new State();
    private final Tuner trialTuner = new Tuner();

    public RoundOfTheA() {
        for (int i = 0; i < FIRST_TEXT.length() && i < MOST_LETTERS; i++) {
            text[i] = FIRST_TEXT.charAt(i);
        }
        letters = Math.min(FIRST_TEXT.length(), MOST_LETTERS);
        layText();
        letters = 0;
    }

    // ---- halls

    public int write(int letter) {
        if (!isFrom(letter, 32, 126)) return BAD;
        if (letters >= MOST_LETTERS) return FULL;
        text[letters] = letter;
        letters++;
        return letters;
    }

    public int wipe() {
        int were = letters;
        letters = 0;
        return were;
    }

    public int fault() {
        return reader.readInto(toldHall, text, letters);
    }

    public int lay() {
        return layText();
    }

    public int desk(int i, int what) {
        if (!hall.hasDesk(i)) return BAD;
        switch (what) {
            case 0: return hall.kind[i];
            case 1: return hall.leanTold[i];
            case 2: return hall.needs[i];
            case 3: return now.hears[i];
            case 4: return hall.group[i];
            default: return BAD;
        }
    }

    public int off(int i) {
        if (i == OBOE) return now.oboe + TOLD_MORE;
        if (!hall.hasDesk(i)) return BAD;
        return now.pitch[i] + TOLD_MORE;
    }

    // ---- tuning

    public int tune(int set) {
        if (!isSomeSet(set)) return BAD;
        undone.put(now);
        return tuner.letTune(hall, now, set);
    }

    public int minutes(int n) {
        if (!isFrom(n, 1, MOST_MINUTES)) return BAD;
        if (now.seconds + n * MINUTE > MOST_SECONDS) return NO;
        undone.put(now);
        now.letPass(hall, n * MINUTE);
        return now.seconds;
    }

    public int hear(int i, int whom) {
        if (!hall.hasDesk(i) || !hall.canHear(i, whom)) return BAD;
        undone.put(now);
        int did = now.hears[i];
        now.hears[i] = whom;
        return did;
    }

    public int undo() {
        if (!undone.takeInto(now)) return NO;
        return undone.filled;
    }

    // ---- how it is

    public int spread() {
        return now.apart(hall.desks);
    }

    public int heard() {
        return now.twosHeard(hall);
    }

    public int mean(int part) {
        if (!isFrom(part, 0, 1)) return BAD;
        int above = hall.desks * TOLD_MORE;
        for (int i = 0; i < hall.desks; i++) above += now.pitch[i];
        return partOfFraction(above, hall.desks, part);
    }

    // ---- by groups

    public int round(int i) {
        if (i != -1 && i != -2 && !hall.hasDesk(i)) return BAD;
        startTrial();
        int seconds = trialTuner.letGroupsTune(hall, trial);
        if (i == -1) return trial.apart(hall.desks);
        if (i == -2) return seconds;
        return trial.pitchOf(i) + TOLD_MORE;
    }

    public int halves(int what) {
        if (!isFrom(what, 0, 2)) return BAD;
        int all = hall.allDesks();
        int bestSet = 0;
        int bestSpread = FAR;
        int bestSeconds = FAR;
        for (int set = 0; set <= all; set++) {
            startTrial();
            int seconds = trialTuner.letTune(hall, trial, set);
            seconds += trialTuner.letTune(hall, trial, all & ~set);
            int apart = trial.apart(hall.desks);
            if (apart < bestSpread || (apart == bestSpread && seconds < bestSeconds)) {
                bestSet = set;
                bestSpread = apart;
                bestSeconds = seconds;
            }
        }
        if (what == 0) return bestSet;
        return what == 1 ? bestSpread : bestSeconds;
    }

    public int way(int i, int what) {
        if (!hall.hasDesk(i) || !isFrom(what, 0, 1)) return BAD;
        int at = i;
        int leaning = 0;
        // A way that does not come round meets each desk once at most.
        for (int steps = 1; steps <= hall.desks; steps++) {
            if (!hall.hasDesk(at)) return NONE;
            int whom = now.hears[at];
            if (whom != NEEDLE) leaning += hall.leanOf(at);
            if (whom == NEEDLE || whom == OBOE) return what == 0 ? steps : leaning + LEAN_TOLD_MORE;
            at = whom;
        }
        return NONE;
    }

    public int ear(int i, int what) {
        if (!hall.hasDesk(i) || !isFrom(what, 0, 1)) return BAD;
        if (hall.kind[i] == FIXED) return NO;
        int bestWhom = OBOE;
        int bestOff = FAR;
        for (int whom = 0; whom <= OBOE; whom++) {
            if (whom == NEEDLE || !hall.canHear(i, whom)) continue;
            startTrial();
            trial.hears[i] = whom;
            trialTuner.letGroupsTune(hall, trial);
            int off = Math.abs(trial.pitch[i]);
            if (off < bestOff) {
                bestWhom = whom;
                bestOff = off;
            }
        }
        return what == 0 ? bestWhom : bestOff;
    }

    public int again() {
        startTrial();
        for (int minute = 0; minute <= MOST_WAITED; minute++) {
            if (trial.apart(hall.desks) > hall.unheard) return minute;
            trial.letPass(hall, MINUTE);
        }
        return NONE;
    }

    public int needles(int k, int what) {
        if (!isFrom(k, 0, 3) || !isFrom(what, 0, 1)) return BAD;
        int tunable = hall.tunableOf(hall.allDesks());
        if (Integer.bitCount(tunable) < k) return NONE;
        int bestSet = 0;
        int bestSpread = FAR;
        for (int set = 0; set <= tunable; set++) {
            if (Integer.bitCount(set) != k || (set & ~tunable) != 0) continue;
            startTrial();
            trial.giveNeedles(hall.desks, set);
            trialTuner.letGroupsTune(hall, trial);
            int apart = trial.apart(hall.desks);
            if (apart < bestSpread) {
                bestSet = set;
                bestSpread = apart;
            }
        }
        return what == 0 ? bestSet : bestSpread;
    }

    public int blame(int what) {
        if (!isFrom(what, 0, 1)) return BAD;
        int bestDesk = 0;
        int bestSpread = FAR;
        for (int i = 0; i < hall.desks; i++) {
            startTrial();
            trialTuner.straighten(i);
            trialTuner.letGroupsTune(hall, trial);
            int apart = trial.apart(hall.desks);
            if (apart < bestSpread) {
                bestDesk = i;
                bestSpread = apart;
            }
        }
        return what == 0 ? bestDesk : bestSpread;
    }

    public int fifths(int a, int b, int what) {
        if (!isFrom(a, 0, MOST_STRINGS) || !isFrom(b, 0, MOST_STRINGS)) return BAD;
        if (!isFrom(what, 0, 1)) return BAD;
        int bestRaise = 0;
        int bestSore = FAR;
        for (int raise = -MOST_RAISED; raise <= MOST_RAISED; raise++) {
            int sore = sorest(a, b, raise);
            if (sore < bestSore) {
                bestRaise = raise;
                bestSore = sore;
            }
        }
        return what == 0 ? bestRaise + MOST_RAISED : bestSore;
    }

    // ---- who is high

    public int together(int set, int v) {
        if (!isSomeSet(set) || !isFrom(v, 0, MOST_SUM_TOLD)) return BAD;
        if (togetherCount >= MOST_TOGETHER) return FULL;
        togetherSets[togetherCount] = set;
        togetherSums[togetherCount] = v - SUM_TOLD_MORE;
        togetherCount++;
        return togetherCount;
    }

    public int forget() {
        int were = togetherCount;
        togetherCount = 0;
        return were;
    }

    public int high(int what) {
        if (!isFrom(what, 0, 1)) return BAD;
        int found = 0;
        int first = NONE;
        for (int i = 0; i < hall.desks; i++) {
            for (int slip = -MOST_SLIP; slip <= MOST_SLIP; slip++) {
                if (slip == 0 || !explainsAll(i, slip)) continue;
                if (found == 0) first = SLIPS_A_DESK * i + slip + MOST_SLIP;
                found++;
            }
        }
        return what == 0 ? found : first;
    }

    public int odds(int x, int part) {
        if (!isFrom(x, 0, TENTHS) || !isFrom(part, 0, 1)) return BAD;
        int pegged = hall.peggedDesks();
        int above = 0;
        for (int set = 0; set <= pegged; set++) {
            if ((set & ~pegged) != 0) continue;
            startTrial();
            trial.slipPegs(hall.desks, set);
            if (trial.twosHeard(hall) > 0) continue;
            above += power(x, Integer.bitCount(set)) * power(TENTHS - x, Integer.bitCount(pegged & ~set));
        }
        return partOfFraction(above, power(TENTHS, Integer.bitCount(pegged)), part);
    }

    public int evening(int z, int what) {
        if (!isFrom(z, 0, MOST_EVENING) || !isFrom(what, 0, 1)) return BAD;
        startTrial();
        trialTuner.drawBy(z);
        trialTuner.letGroupsTune(hall, trial);
        return what == 0 ? trial.apart(hall.desks) : trial.twosHeard(hall);
    }

    // ---- kept

    public int keep() {
        if (kept.filled >= MOST_KEPT) return FULL;
        kept.put(now);
        return kept.filled;
    }

    public int back() {
        if (!kept.takeInto(now)) return NO;
        undone.empty();
        return kept.filled;
    }

    public int count(int what) {
        switch (what) {
            case 0: return hall.desks;
            case 1: return now.seconds;
            case 2: return now.seconds / MINUTE * hall.warmth;
            case 3: return togetherCount;
            case 4: return undone.filled;
            case 5: return kept.filled;
            case 6: return letters;
            case 7: return hall.unheard;
            default: return BAD;
        }
    }

    // ---- what several of them need

    private int layText() {
        if (reader.readInto(toldHall, text, letters) != NONE || !toldHall.canBeLaid()) return NO;
        Hall before = hall;
        hall = toldHall;
        toldHall = before;
        now.begin(hall);
        undone.empty();
        kept.empty();
        togetherCount = 0;
        return hall.desks;
    }

    private void startTrial() {
        trial.become(now);
        trialTuner.tuneAsIs();
    }

    private boolean isSomeSet(int set) {
        return isFrom(set, 1, hall.allDesks());
    }

    private boolean explainsAll(int desk, int slip) {
        for (int t = 0; t < togetherCount; t++) {
            int set = togetherSets[t];
            int sum = isIn(set, desk) ? slip : 0;
            for (int i = 0; i < hall.desks; i++) {
                if (isIn(set, i)) sum += now.pitch[i];
            }
            if (sum != togetherSums[t]) return false;
        }
        return true;
    }

    private static int sorest(int below, int above, int raise) {
        int sore = 0;
        for (int s = -below; s <= above; s++) {
            sore = Math.max(sore, Math.abs(FIFTH_HAIRS * s + raise));
        }
        return sore;
    }

    private static int partOfFraction(int above, int below, int part) {
        int shared = Math.max(1, commonDivisor(above, below));
        return part == 0 ? above / shared : below / shared;
    }

    private static int commonDivisor(int a, int b) {
        int left = a;
        int right = b;
        // Euclid's remainders halve in two turns, so 100 turns are more than ints need.
        for (int turn = 0; turn < 100 && right != 0; turn++) {
            int rest = left % right;
            left = right;
            right = rest;
        }
        return left;
    }

    private static int power(int base, int times) {
        int product = 1;
        for (int i = 0; i < times; i++) product *= base;
        return product;
    }

    private static boolean isFrom(int number, int least, int most) {
        return number >= least && number <= most;
    }

    private static boolean isIn(int set, int i) {
        return (set >> i & 1) == 1;
    }

    private static int within(int hairs) {
        return Math.max(-MOST_OFF, Math.min(MOST_OFF, hairs));
    }

    /** What a text tells; nothing in it changes once it is LAID. */
    private static final class Hall {
        int desks;
        final int[] kind = new int[MOST_DESKS];
        final int[] leanTold = new int[MOST_DESKS];
        final int[] needs = new int[MOST_DESKS];
        final int[] firstHears = new int[MOST_DESKS];
        final int[] group = new int[MOST_DESKS];
        final int[] firstPitch = new int[MOST_DESKS];
        int oboe;
        int slip;
        int warmth;
        int unheard;

        void clear() {
            desks = 0;
            oboe = 0;
            slip = 0;
            warmth = 1;
            unheard = 3;
        }

        boolean addDesk(int itsKind, int lean, int seconds, int whom) {
            if (desks >= MOST_DESKS) return false;
            kind[desks] = itsKind;
            leanTold[desks] = lean;
            needs[desks] = seconds;
            firstHears[desks] = whom;
            group[desks] = 0;
            firstPitch[desks] = 0;
            desks++;
            return true;
        }

        boolean hasDesk(int i) {
            return i >= 0 && i < desks;
        }

        boolean canHear(int i, int whom) {
            return whom == NEEDLE || whom == OBOE || (hasDesk(whom) && whom != i);
        }

        boolean canBeLaid() {
            for (int i = 0; i < desks; i++) {
                if (!canHear(i, firstHears[i])) return false;
            }
            return desks > 0;
        }

        int leanOf(int i) {
            return hasDesk(i) ? leanTold[i] - 3 : 0;
        }

        int hairsADegree(int i) {
            if (!hasDesk(i)) return 0;
            switch (kind[i]) {
                case STRING: return -1;
                case WIND: return 1;
                case HARP: return -2;
                default: return 0;
            }
        }

        int allDesks() {
            return (1 << desks) - 1;
        }

        /** Those of the set that are not FIXED. */
        int tunableOf(int set) {
            int tunable = 0;
            for (int i = 0; i < desks; i++) {
                if (isIn(set, i) && kind[i] != FIXED) tunable |= 1 << i;
            }
            return tunable;
        }

        int peggedDesks() {
            int pegged = 0;
            for (int i = 0; i < desks; i++) {
                if (kind[i] == STRING || kind[i] == HARP) pegged |= 1 << i;
            }
            return pegged;
        }

        int desksOfGroup(int k) {
            int set = 0;
            for (int i = 0; i < desks; i++) {
                if (group[i] == k) set |= 1 << i;
            }
            return set;
        }
    }

    /** What tuning, time and hearing change: this is what is UNDONE and KEPT. */
    private static final class State {
        final int[] pitch = new int[MOST_DESKS];
        final int[] hears = new int[MOST_DESKS];
        int oboe;
        int seconds;

        void begin(Hall hall) {
            for (int i = 0; i < hall.desks; i++) {
                pitch[i] = hall.firstPitch[i];
                hears[i] = hall.firstHears[i];
            }
            oboe = hall.oboe;
            seconds = 0;
        }

        void become(State other) {
            for (int i = 0; i < MOST_DESKS; i++) {
                pitch[i] = other.pitch[i];
                hears[i] = other.hears[i];
            }
            oboe = other.oboe;
            seconds = other.seconds;
        }

        /** How far OFF a DESK, the OBOE or a NEEDLE is. */
        int pitchOf(int whom) {
            if (whom == OBOE) return oboe;
            return whom >= 0 && whom < MOST_DESKS ? pitch[whom] : 0;
        }

        void letPass(Hall hall, int more) {
            int fullMinutes = (seconds + more) / MINUTE - seconds / MINUTE;
            int degrees = fullMinutes * hall.warmth;
            for (int i = 0; i < hall.desks; i++) {
                pitch[i] = within(pitch[i] + degrees * hall.hairsADegree(i));
            }
            seconds += more;
        }

        void giveNeedles(int desks, int set) {
            for (int i = 0; i < desks; i++) {
                if (isIn(set, i)) hears[i] = NEEDLE;
            }
        }

        void slipPegs(int desks, int set) {
            for (int i = 0; i < desks; i++) {
                if (isIn(set, i)) pitch[i] = within(pitch[i] - PEG_HAIRS);
            }
        }

        /** The SPREAD. */
        int apart(int desks) {
            int highest = pitch[0];
            int lowest = pitch[0];
            for (int i = 1; i < desks; i++) {
                highest = Math.max(highest, pitch[i]);
                lowest = Math.min(lowest, pitch[i]);
            }
            return highest - lowest;
        }

        int twosHeard(Hall hall) {
            int twos = 0;
            for (int i = 0; i < hall.desks; i++) {
                for (int j = i + 1; j < hall.desks; j++) {
                    if (Math.abs(pitch[i] - pitch[j]) > hall.unheard) twos++;
                }
            }
            return twos;
        }
    }

    /** States put one upon the other; where there is no more room, the oldest one falls out. */
    private static final class Shelf {
        private final State[] places;
        private int next = 0;
        int filled = 0;

        Shelf(int most) {
            places = new State[Math.max(1, most)];
            for (int i = 0; i < places.length; i++) places[i] = new State();
        }

        void put(State state) {
            State place = places[next];
            if (place == null) return;
            place.become(state);
            next = next + 1 < places.length ? next + 1 : 0;
            filled = Math.min(filled + 1, places.length);
        }

        boolean takeInto(State state) {
            if (filled <= 0) return false;
            int latest = next > 0 ? next - 1 : places.length - 1;
            State place = places[latest];
            if (place == null) return false;
            state.become(place);
            next = latest;
            filled--;
            return true;
        }

        void empty() {
            filled = 0;
        }
    }

    /** Lets sets TUNE in a state, as things stand or as they would be. */
    private static final class Tuner {
        private final State ahead = new State();
        private int straightDesk = NOBODY;
        private boolean draws = false;
        private int drawSeed = 0;
        private int drawn = 0;

        void tuneAsIs() {
            straightDesk = NOBODY;
            draws = false;
        }

        /** That desk LEANS by 0 from now on. */
        void straighten(int desk) {
            straightDesk = desk;
        }

        /** Each DESK that takes the note slips by DRAW from now on. */
        void drawBy(int z) {
            draws = true;
            drawSeed = z;
            drawn = 0;
        }

        int letGroupsTune(Hall hall, State state) {
            int seconds = 0;
            for (int k = 0; k < GROUPS; k++) {
                seconds += letTune(hall, state, hall.desksOfGroup(k));
            }
            return seconds;
        }

        int letTune(Hall hall, State state, int set) {
            int takers = hall.tunableOf(set);
            int noise = (Integer.bitCount(takers) - 1) / 2;
            int slowest = 0;
            boolean fromOboe = false;
            ahead.become(state);
            for (int i = 0; i < hall.desks; i++) {
                if (!isIn(takers, i)) continue;
                state.pitch[i] = within(noteFor(hall, i, noise) + nextDraw());
                slowest = Math.max(slowest, hall.needs[i]);
                if (ahead.hears[i] == OBOE) fromOboe = true;
            }
            if (fromOboe) state.oboe = within(state.oboe + hall.slip);
            state.letPass(hall, slowest);
            return slowest;
        }

        private int noteFor(Hall hall, int i, int noise) {
            int whom = hall.hasDesk(i) ? ahead.hears[i] : NEEDLE;
            if (whom == NEEDLE) return 0;
            int lean = i == straightDesk ? 0 : hall.leanOf(i);
            return ahead.pitchOf(whom) + lean + noise;
        }

        private int nextDraw() {
            if (!draws) return 0;
            long x = 7919L * drawSeed + 6151L * drawn + 1;
            drawn++;
            return (int) (x * x % DRAW_MODULUS % 3) - 1;
        }
    }

    /** Reads a text into a hall, item by item. */
    private static final class TextReader {
        private final int[] numbers = new int[MOST_NUMBERS];
        private int place = 0;

        /** FAULT, or NONE. */
        int readInto(Hall hall, int[] text, int letters) {
            int length = Math.min(letters, text.length);
            hall.clear();
            place = 0;
            for (int item = 0; item < length && place < length; item++) {
                int start = place;
                if (!readItem(hall, text, length)) return start;
            }
            return NONE;
        }

        private boolean readItem(Hall hall, int[] text, int length) {
            int letter = letterAt(text, length);
            int many = numbersBehind(letter);
            if (many == 0) return false;
            for (int i = 0; i < many && i < MOST_NUMBERS; i++) {
                place++;
                if (!readNumber(i, text, length)) return false;
                if (letterAt(text, length) != (i + 1 < many ? ',' : ';')) return false;
            }
            place++;
            return takeItem(hall, letter);
        }

        private static int numbersBehind(int letter) {
            switch (letter) {
                case 'd': return 4;
                case 'g': case 'p': case 'o': return 2;
                case 'w': case 'h': return 1;
                default: return 0;
            }
        }

        private boolean readNumber(int i, int[] text, int length) {
            int figures = 0;
            int number = 0;
            while (figures < 2 && isFrom(letterAt(text, length), '0', '9')) {
                number = number * 10 + letterAt(text, length) - '0';
                figures++;
                place++;
            }
            if (figures == 0 || i < 0 || i >= MOST_NUMBERS) return false;
            numbers[i] = number;
            return true;
        }

        private int letterAt(int[] text, int length) {
            return place >= 0 && place < length && place < text.length ? text[place] : 0;
        }

        private boolean takeItem(Hall hall, int letter) {
            int a = numbers[0];
            int b = numbers[1];
            switch (letter) {
                case 'd': return takeDesk(hall);
                case 'g':
                    if (!hall.hasDesk(a) || b >= GROUPS) return false;
                    hall.group[a] = b;
                    return true;
                case 'p':
                    if (!hall.hasDesk(a) || b > 40) return false;
                    hall.firstPitch[a] = b - 20;
                    return true;
                case 'o':
                    if (a > 18 || b > 3) return false;
                    hall.oboe = a - 9;
                    hall.slip = b;
                    return true;
                case 'w':
                    if (a > 3) return false;
                    hall.warmth = a;
                    return true;
                case 'h':
                    if (!isFrom(a, 1, 20)) return false;
                    hall.unheard = a;
                    return true;
                default: return false;
            }
        }

        private boolean takeDesk(Hall hall) {
            int kind = numbers[0];
            int lean = numbers[1];
            int seconds = numbers[2];
            int whom = numbers[3];
            if (kind > HARP || lean > 6 || !isFrom(seconds, 1, 60) || whom > OBOE) return false;
            return hall.addDesk(kind, lean, seconds, whom);
        }
    }
}
