/**
 * Twin disc influence jars with combs, sparks, damp days and reversed signs.
 * What each method promises stands in ../shared/DOC.md.
 */
public final class InfluenceJars {
    public static final int NO_SUCH = -1000001, BAD_VALUE = -1000002, BAD_TEXT = -1000003,
            TOO_MANY = -1000004, NOT_POSSIBLE = -1000005, NONE = -1000006;
    public static final int GAIN = 0, DAMP = 1, GAP = 2, SWING = 3, HOLD = 4;

    private static final int SETTINGS = 5;
    private static final int[] LEAST_SETTING = {0, 0, 1, 0, 100};
    private static final int[] MOST_SETTING = {32, 60, 200, 60, 2000};

    private static final int DISCS = 2, PLACES = 12, JARS = 2;
    private static final int MOST_CHARGE = 99;
    private static final int MOST_TURNS_AT_ONCE = 99, MOST_TURNS = 99999;
    private static final int TURNS_TO_WAIT = 400, TURNS_TO_SEARCH = 200;
    private static final int LOGGED_SPARKS = 8, SPARK_FACTS = 3;
    private static final int HISTORY_STATES = 6, SLOTS = 2;
    private static final int PAD_LENGTH = 60, CHARACTERS_AT_ONCE = 8;

    private final Machine now = new Machine();
    /** What-if questions are tried out on this one, so that they need no new objects. */
    private final Machine trial = new Machine();
    private final History history = new History();
    private final Machine[] slots = new Machine[SLOTS];
    private final DeedReader reader = new DeedReader();
    private final Pad pad = reader.pad;

    public InfluenceJars() {
    }

    // ---- changes

    public int set(int setting, int value) {
        if (setting < 0 || setting >= SETTINGS) {
            return BAD_VALUE;
        }
        if (value < LEAST_SETTING[setting] || value > MOST_SETTING[setting]) {
            return BAD_VALUE;
        }
        if (setting == HOLD && now.fullestJar() > value) {
            return NOT_POSSIBLE;
        }
        history.record(now);
        int previous = now.settings[setting];
        now.settings[setting] = value;
        return previous;
    }

    public int touch(int disc, int place, int charge) {
        if (isNoDisc(disc) || isNoPlace(place)) {
            return NO_SUCH;
        }
        if (charge < -MOST_CHARGE || charge > MOST_CHARGE) {
            return BAD_VALUE;
        }
        history.record(now);
        return now.putCharge(disc, place, charge);
    }

    public int turn(int turns) {
        if (turns < 1 || turns > MOST_TURNS_AT_ONCE) {
            return BAD_VALUE;
        }
        if (!now.hasTurnsLeft(turns)) {
            return TOO_MANY;
        }
        history.record(now);
        return now.turnHandle(turns);
    }

    public int discharge() {
        history.record(now);
        return now.emptyJars();
    }

    public int wipeDisc(int disc) {
        if (isNoDisc(disc)) {
            return NO_SUCH;
        }
        history.record(now);
        return now.emptySectors(disc);
    }

    public int run() {
        if (reader.findFault() != NONE) {
            return BAD_TEXT;
        }
        history.record(now);
        int sparksBefore = now.sparks;
        reader.start();
        for (int deeds = 0; deeds < PAD_LENGTH && reader.readDeed(); deeds++) {
            doReadDeed();
            reader.readSign(';');
        }
        pad.clear();
        return now.sparks - sparksBefore;
    }

    private void doReadDeed() {
        if (reader.deed == DeedReader.TOUCHES) {
            now.putCharge(reader.disc, reader.place, reader.amount);
        } else if (reader.deed == DeedReader.DISCHARGES) {
            now.emptyJars();
        } else if (now.hasTurnsLeft(reader.amount)) {
            now.turnHandle(reader.amount);
        }
    }

    // ---- what there is; nothing changes

    public int sector(int disc, int place) {
        if (isNoDisc(disc) || isNoPlace(place)) {
            return NO_SUCH;
        }
        return now.charges[Machine.indexOf(disc, place, now.turns)];
    }

    public int disc(int disc, int what) {
        if (isNoDisc(disc)) {
            return NO_SUCH;
        }
        switch (what) {
            case 0:
                return now.sumOfDisc(disc);
            case 1:
                return now.sectorsWithSign(disc, 1);
            case 2:
                return now.sectorsWithSign(disc, -1);
            case 3:
                return now.greatestOfDisc(disc);
            case 4:
                return now.leastOfDisc(disc);
            default:
                return BAD_VALUE;
        }
    }

    public int jar(int jar, int what) {
        if (jar < 0 || jar >= JARS) {
            return NO_SUCH;
        }
        switch (what) {
            case 0:
                return now.jars[jar];
            case 1:
                return now.taken[jar];
            case 2:
                return now.leakedOfJar[jar];
            default:
                return BAD_VALUE;
        }
    }

    public int spark(int ago, int what) {
        if (ago < 0 || what < 0 || what >= SPARK_FACTS) {
            return BAD_VALUE;
        }
        if (ago >= LOGGED_SPARKS || ago >= now.sparks) {
            return NONE;
        }
        return now.sparkLog[Machine.logIndexOf(now.sparks - 1 - ago) + what];
    }

    public int count(int what) {
        if (what >= 0 && what < SETTINGS) {
            return now.settings[what];
        }
        switch (what) {
            case 5:
                return now.turns;
            case 6:
                return now.sparks;
            case 7:
                return now.reversals;
            case 8:
                return now.sign();
            case 9:
                return now.chargeOfAll();
            case 10:
                return now.leaked;
            case 11:
                return now.putOn;
            case 12:
                return now.takenOff;
            case 13:
                return pad.length;
            case 14:
                return history.size;
            default:
                return BAD_VALUE;
        }
    }

    // ---- what if; nothing changes

    public int untilSpark() {
        trial.become(now);
        return trial.turnToSpark(TURNS_TO_WAIT);
    }

    public int ifTurned(int turns, int what) {
        if (turns < 1 || turns > TURNS_TO_WAIT || what < 0 || what > 5) {
            return BAD_VALUE;
        }
        trial.become(now);
        int greatestDifference = trial.turnToGreatestDifference(turns);
        switch (what) {
            case 0:
                return trial.sparks - now.sparks;
            case 1:
                return trial.reversals - now.reversals;
            case 2:
                return trial.jars[0];
            case 3:
                return trial.jars[1];
            case 4:
                return greatestDifference;
            default:
                return trial.chargeOfAll();
        }
    }

    /** GAP has no say in what happens ahead of the first spark, so that one trial tells all. */
    public int widestGap() {
        trial.become(now);
        int difference = 0;
        for (int i = 0; i < TURNS_TO_SEARCH; i++) {
            trial.turnAheadOfSpark();
            difference = Math.max(difference, trial.difference());
        }
        int gap = Math.min(difference / 10, MOST_SETTING[GAP]);
        return gap < LEAST_SETTING[GAP] ? NONE : gap;
    }

    /** More damp may well help a spark (it can turn signs), so that each value is tried. */
    public int mostDamp() {
        for (int damp = MOST_SETTING[DAMP]; damp >= LEAST_SETTING[DAMP]; damp--) {
            trial.become(now);
            trial.settings[DAMP] = damp;
            if (trial.turnToSpark(TURNS_TO_SEARCH) != NONE) {
                return damp;
            }
        }
        return NONE;
    }

    // ---- texts

    public int put(long characters) {
        int many = charactersIn(characters);
        if (many == 0) {
            return BAD_VALUE;
        }
        if (pad.length + many > PAD_LENGTH) {
            return TOO_MANY;
        }
        pad.append(characters, many);
        return pad.length;
    }

    public int wipe() {
        int previous = pad.length;
        pad.clear();
        return previous;
    }

    public int fault() {
        return reader.findFault();
    }

    // ---- undo, saving

    public int undo() {
        if (!history.takeBack(now)) {
            return NOT_POSSIBLE;
        }
        return history.size;
    }

    public int save(int slot) {
        if (slot < 0 || slot >= SLOTS) {
            return BAD_VALUE;
        }
        Machine saved = slots[slot];
        if (saved == null) {
            saved = new Machine();
            slots[slot] = saved;
        }
        saved.become(now);
        return now.turns;
    }

    public int restore(int slot) {
        if (slot < 0 || slot >= SLOTS) {
            return BAD_VALUE;
        }
        Machine saved = slots[slot];
        if (saved == null) {
            return NOT_POSSIBLE;
        }
        history.record(now);
        now.become(saved);
        return now.turns;
    }

    // ---- what the methods share

    private static boolean isNoDisc(int disc) {
        return disc < 0 || disc >= DISCS;
    }

    private static boolean isNoPlace(int place) {
        return place < 0 || place >= PLACES;
    }

    /** How many characters a number holds; 0 if it holds none, or something else. */
    private static int charactersIn(long characters) {
        int many = 0;
        long left = characters;
        for (int i = 0; i < CHARACTERS_AT_ONCE && left != 0; i++) {
            int code = (int) (left & 255);
            if (code < 33 || code > 126) {
                return 0;
            }
            many++;
            left >>>= 8;
        }
        return many;
    }

    private static int limited(int value, int least, int most) {
        return Math.max(least, Math.min(most, value));
    }

    private static void copyNumbers(int[] from, int[] to) {
        System.arraycopy(from, 0, to, 0, Math.min(from.length, to.length));
    }

    /** Everything that undo and the slots keep. */
    private static final class Machine {
        final int[] settings = {12, 2, 30, 20, 1000};
        /** The charges of the front disc's sectors, then the back one's; see indexOf(). */
        final int[] charges = new int[DISCS * PLACES];
        final int[] jars = new int[JARS];
        final int[] taken = new int[JARS];
        final int[] leakedOfJar = new int[JARS];
        final int[] sparkLog = new int[LOGGED_SPARKS * SPARK_FACTS];
        int turns;
        int sparks;
        int reversals;
        /** The latest sign behind a turn that was not 0; 0 if there was none. */
        int latestSign;
        int leaked;
        int putOn;
        int takenOff;

        void become(Machine other) {
            copyNumbers(other.settings, settings);
            copyNumbers(other.charges, charges);
            copyNumbers(other.jars, jars);
            copyNumbers(other.taken, taken);
            copyNumbers(other.leakedOfJar, leakedOfJar);
            copyNumbers(other.sparkLog, sparkLog);
            turns = other.turns;
            sparks = other.sparks;
            reversals = other.reversals;
            latestSign = other.latestSign;
            leaked = other.leaked;
            putOn = other.putOn;
            takenOff = other.takenOff;
        }

        /**
         * Where charges has the sector that stands at a place. No sector moves in the array
         * when the discs turn: the number of turns tells how far each has come.
         */
        static int indexOf(int disc, int place, int turns) {
            if (disc == 0) {
                return Math.floorMod(place - turns, PLACES);
            }
            return PLACES + Math.floorMod(place + turns, PLACES);
        }

        static int firstIndexOf(int disc) {
            return disc == 0 ? 0 : PLACES;
        }

        /** Where sparkLog has the first fact of a spark, counted from the first spark of all. */
        static int logIndexOf(int spark) {
            return SPARK_FACTS * Math.floorMod(spark, LOGGED_SPARKS);
        }

        // -- what there is

        int sumOfDisc(int disc) {
            int sum = 0;
            int first = firstIndexOf(disc);
            for (int i = first; i < first + PLACES; i++) {
                sum += charges[i];
            }
            return sum;
        }

        int sectorsWithSign(int disc, int sign) {
            int many = 0;
            int first = firstIndexOf(disc);
            for (int i = first; i < first + PLACES; i++) {
                if (Integer.signum(charges[i]) == sign) {
                    many++;
                }
            }
            return many;
        }

        int greatestOfDisc(int disc) {
            int greatest = -MOST_CHARGE;
            int first = firstIndexOf(disc);
            for (int i = first; i < first + PLACES; i++) {
                greatest = Math.max(greatest, charges[i]);
            }
            return greatest;
        }

        int leastOfDisc(int disc) {
            int least = MOST_CHARGE;
            int first = firstIndexOf(disc);
            for (int i = first; i < first + PLACES; i++) {
                least = Math.min(least, charges[i]);
            }
            return least;
        }

        int chargeOfAll() {
            return sumOfDisc(0) + sumOfDisc(1) + jars[0] + jars[1];
        }

        int fullestJar() {
            return Math.max(Math.abs(jars[0]), Math.abs(jars[1]));
        }

        int difference() {
            return Math.abs(jars[0] - jars[1]);
        }

        int sign() {
            return Integer.signum(jars[0] - jars[1]);
        }

        boolean hasTurnsLeft(int more) {
            return turns + more <= MOST_TURNS;
        }

        // -- deeds

        /** Returns the previous charge. */
        int putCharge(int disc, int place, int charge) {
            int at = indexOf(disc, place, turns);
            int previous = charges[at];
            charges[at] = charge;
            putOn += charge - previous;
            return previous;
        }

        /** Returns by how much the charges of the jars differed. */
        int emptyJars() {
            int differed = difference();
            takenOff += jars[0] + jars[1];
            jars[0] = 0;
            jars[1] = 0;
            return differed;
        }

        /** Returns how many sectors had a charge. */
        int emptySectors(int disc) {
            int many = sectorsWithSign(disc, 1) + sectorsWithSign(disc, -1);
            takenOff += sumOfDisc(disc);
            int first = firstIndexOf(disc);
            for (int i = first; i < first + PLACES; i++) {
                charges[i] = 0;
            }
            return many;
        }

        /** Returns how many sparks jumped. */
        int turnHandle(int times) {
            int sparksBefore = sparks;
            for (int i = 0; i < times; i++) {
                turnOnce();
            }
            return sparks - sparksBefore;
        }

        /** Returns the greatest difference of the jars behind any of the turns. */
        int turnToGreatestDifference(int times) {
            int greatest = 0;
            for (int i = 0; i < times; i++) {
                turnOnce();
                greatest = Math.max(greatest, difference());
            }
            return greatest;
        }

        /** Turns until a spark is about to jump; returns in which turn, or NONE. */
        int turnToSpark(int most) {
            for (int i = 1; i <= most; i++) {
                turnAheadOfSpark();
                if (isSparkDue()) {
                    return i;
                }
            }
            return NONE;
        }

        // -- a turn

        void turnOnce() {
            turnAheadOfSpark();
            if (isSparkDue()) {
                letJump();
            }
            noteSign();
        }

        void turnAheadOfSpark() {
            turns++;
            join(0, 2, 8);
            join(1, 4, 10);
            gather(0, 0);
            gather(1, 6);
            leakFromSectors();
            leakFromJar(0);
            leakFromJar(1);
        }

        private void join(int disc, int place, int otherPlace) {
            int p = indexOf(disc, place, turns);
            int q = indexOf(disc, otherPlace, turns);
            int a = charges[p];
            int b = charges[q];
            int c = charges[indexOf(1 - disc, place, turns)];
            int d = charges[indexOf(1 - disc, otherPlace, turns)];
            int wanted = (a + b) / 2 + (d - c) * settings[GAIN] / 32;
            int least = Math.max(-MOST_CHARGE - a, b - MOST_CHARGE);
            int most = Math.min(MOST_CHARGE - a, b + MOST_CHARGE);
            int moved = limited(wanted - a, least, most);
            charges[p] = a + moved;
            charges[q] = b - moved;
        }

        private void gather(int jar, int place) {
            for (int disc = 0; disc < DISCS; disc++) {
                int at = indexOf(disc, place, turns);
                int hold = settings[HOLD];
                int moved = limited(charges[at], -hold - jars[jar], hold - jars[jar]);
                charges[at] -= moved;
                jars[jar] += moved;
                taken[jar] += moved;
            }
        }

        private void leakFromSectors() {
            for (int i = 0; i < charges.length; i++) {
                int lost = charges[i] * settings[DAMP] / 100;
                charges[i] -= lost;
                leaked += lost;
            }
        }

        private void leakFromJar(int jar) {
            int lost = jars[jar] * settings[DAMP] / 200;
            jars[jar] -= lost;
            leakedOfJar[jar] += lost;
            leaked += lost;
        }

        private boolean isSparkDue() {
            return difference() >= 10 * settings[GAP];
        }

        private void letJump() {
            int at = logIndexOf(sparks);
            sparkLog[at] = turns;
            sparkLog[at + 1] = jars[0];
            sparkLog[at + 2] = jars[1];
            sparks++;
            int both = jars[0] + jars[1];
            int middle = both / 2;
            jars[0] = middle - (jars[0] - middle) * settings[SWING] / 100;
            jars[1] = both - jars[0];
        }

        private void noteSign() {
            int sign = sign();
            if (sign == 0) {
                return;
            }
            if (sign == -latestSign) {
                reversals++;
            }
            latestSign = sign;
        }
    }

    /** The states before the latest changes; each row is made once and used again. */
    private static final class History {
        private final Machine[] states = new Machine[HISTORY_STATES];
        private int oldest;
        int size;

        void record(Machine machine) {
            if (size == HISTORY_STATES) {
                oldest++;
                size--;
            }
            int at = Math.floorMod(oldest + size, HISTORY_STATES);
            Machine state = states[at];
            if (state == null) {
                state = new Machine();
                states[at] = state;
            }
            state.become(machine);
            size++;
        }

        /** Makes the machine as it was before the latest change; false if there is none. */
        boolean takeBack(Machine machine) {
            if (size == 0) {
                return false;
            }
            Machine state = states[Math.floorMod(oldest + size - 1, HISTORY_STATES)];
            if (state == null) {
                return false;
            }
            machine.become(state);
            size--;
            return true;
        }
    }

    private static final class Pad {
        private final char[] signs = new char[PAD_LENGTH];
        int length;

        void clear() {
            length = 0;
        }

        void append(long characters, int many) {
            for (int i = many - 1; i >= 0 && length < signs.length; i--) {
                signs[length] = (char) (characters >>> (8 * i) & 255);
                length++;
            }
        }

        /** Returns the character, or 0, which no text has, where there is none. */
        char signAt(int index) {
            return index < 0 || index >= length || index >= signs.length ? (char) 0 : signs[index];
        }
    }

    /** Reads the pad from left to right; it stops at the first character that cannot stand. */
    private static final class DeedReader {
        static final int TOUCHES = 0, TURNS = 1, DISCHARGES = 2;
        private static final int NO_NUMBER = -1;

        final Pad pad = new Pad();
        private int at;
        int deed;
        int disc;
        int place;
        /** The charge of a touch, or how many turns. */
        int amount;

        void start() {
            at = 0;
        }

        int findFault() {
            start();
            for (int deeds = 0; deeds <= PAD_LENGTH; deeds++) {
                if (!readDeed()) {
                    return at;
                }
                if (!readSign(';')) {
                    break;
                }
            }
            return at == pad.length ? NONE : at;
        }

        /** Reads a sign, if it is the next one. */
        boolean readSign(char sign) {
            if (pad.signAt(at) != sign) {
                return false;
            }
            at++;
            return true;
        }

        /** Reads a deed; false if there is none here, or not a whole one. */
        boolean readDeed() {
            if (readSign('x')) {
                deed = DISCHARGES;
                return true;
            }
            if (readSign('.')) {
                deed = TURNS;
                amount = readNumber(1, MOST_TURNS_AT_ONCE);
                return amount != NO_NUMBER;
            }
            deed = TOUCHES;
            return readSector() && readSign('=') && readCharge();
        }

        private boolean readSector() {
            if (readSign('f')) {
                disc = 0;
            } else if (readSign('b')) {
                disc = 1;
            } else {
                return false;
            }
            place = readNumber(0, PLACES - 1);
            return place != NO_NUMBER;
        }

        private boolean readCharge() {
            boolean isBelowZero = readSign('-');
            int number = readNumber(0, MOST_CHARGE);
            if (number == NO_NUMBER) {
                return false;
            }
            amount = isBelowZero ? -number : number;
            return true;
        }

        /** Reads as many digits as a number without leading zeros up to most can have. */
        private int readNumber(int least, int most) {
            int number = digitAt(at);
            if (number < least) {
                return NO_NUMBER;
            }
            at++;
            for (int i = 0; i < PAD_LENGTH && number > 0; i++) {
                int digit = digitAt(at);
                if (digit == NO_NUMBER || 10 * number + digit > most) {
                    break;
                }
                number = 10 * number + digit;
                at++;
            }
            return number;
        }

        private int digitAt(int index) {
            char sign = pad.signAt(index);
            return sign >= '0' && sign <= '9' ? sign - '0' : NO_NUMBER;
        }
    }
}
