import java.util.ArrayList;
import java.util.List;
import java.util.regex.Matcher;
import java.util.regex.Pattern;

/**
 * The document once more, in other ways than the program's: rows of charges that move when
 * the discs turn, whole copies of the state, every value of a setting tried, and a regular
 * expression for the texts.
 */
final class Model {
    private static final int NO_SUCH = -1000001, BAD_VALUE = -1000002, BAD_TEXT = -1000003;
    private static final int TOO_MANY = -1000004, NOT_POSSIBLE = -1000005, NONE = -1000006;
    private static final int[][] RANGES = {{0, 32}, {0, 60}, {1, 200}, {0, 60}, {100, 2000}};
    private static final String DEED = "(?:[fb](?:[0-9]|1[01])=-?(?:0|[1-9][0-9]?)|\\.[1-9][0-9]?|x)";
    private static final Pattern TEXT = Pattern.compile(DEED + "(?:;" + DEED + ")*");

    private static final class State {
        int[] settings = {12, 2, 30, 20, 1000};
        int[][] discs = new int[2][12];
        int[] jars = new int[2];
        int[] took = new int[2];
        int[] leaks = new int[2];
        List<int[]> sparks = new ArrayList<>();
        List<Integer> signs = new ArrayList<>();
        int turns;
        int leaked;
        int put;
        int taken;

        State copy() {
            State other = new State();
            other.settings = settings.clone();
            other.discs = new int[][] {discs[0].clone(), discs[1].clone()};
            other.jars = jars.clone();
            other.took = took.clone();
            other.leaks = leaks.clone();
            other.sparks = new ArrayList<>(sparks);
            other.signs = new ArrayList<>(signs);
            other.turns = turns;
            other.leaked = leaked;
            other.put = put;
            other.taken = taken;
            return other;
        }

        int reversals() {
            int times = 0;
            int latest = 0;
            for (int sign : signs) {
                if (sign != 0) {
                    times += sign + latest == 0 ? 1 : 0;
                    latest = sign;
                }
            }
            return times;
        }

        int all() {
            int sum = jars[0] + jars[1];
            for (int p = 0; p < 12; p++) {
                sum += discs[0][p] + discs[1][p];
            }
            return sum;
        }

        int sign() {
            return jars[0] > jars[1] ? 1 : jars[0] < jars[1] ? -1 : 0;
        }

        boolean turnOnce() {
            turns++;
            int[] front = new int[12];
            int[] back = new int[12];
            for (int p = 0; p < 12; p++) {
                front[(p + 1) % 12] = discs[0][p];
                back[p == 0 ? 11 : p - 1] = discs[1][p];
            }
            discs = new int[][] {front, back};
            join(front, back, 2, 8);
            join(back, front, 4, 10);
            for (int jar = 0; jar < 2; jar++) {
                take(jar, front);
                take(jar, back);
            }
            leak();
            boolean jumps = Math.abs(jars[0] - jars[1]) >= 10 * settings[2];
            if (jumps) {
                sparks.add(new int[] {turns, jars[0], jars[1]});
                int both = jars[0] + jars[1];
                int m = both / 2;
                jars[0] = m - (jars[0] - m) * settings[3] / 100;
                jars[1] = both - jars[0];
            }
            signs.add(sign());
            return jumps;
        }

        private void join(int[] disc, int[] other, int p, int q) {
            int wanted = (disc[p] + disc[q]) / 2 + (other[q] - other[p]) * settings[0] / 32;
            while (disc[p] < wanted && disc[p] < 99 && disc[q] > -99) {
                disc[p]++;
                disc[q]--;
            }
            while (disc[p] > wanted && disc[p] > -99 && disc[q] < 99) {
                disc[p]--;
                disc[q]++;
            }
        }

        private void take(int jar, int[] disc) {
            int place = 6 * jar;
            while (disc[place] > 0 && jars[jar] < settings[4]) {
                disc[place]--;
                jars[jar]++;
                took[jar]++;
            }
            while (disc[place] < 0 && jars[jar] > -settings[4]) {
                disc[place]++;
                jars[jar]--;
                took[jar]--;
            }
        }

        private void leak() {
            for (int[] disc : discs) {
                for (int p = 0; p < 12; p++) {
                    int loss = disc[p] * settings[1] / 100;
                    disc[p] -= loss;
                    leaked += loss;
                }
            }
            for (int jar = 0; jar < 2; jar++) {
                int loss = jars[jar] * settings[1] / 200;
                jars[jar] -= loss;
                leaks[jar] += loss;
                leaked += loss;
            }
        }
    }

    private State now = new State();
    private final List<State> history = new ArrayList<>();
    private final State[] slots = new State[2];
    private String pad = "";

    private void record() {
        history.add(now.copy());
        if (history.size() > 6) {
            history.remove(0);
        }
    }

    int set(int setting, int value) {
        if (setting < 0 || setting > 4 || value < RANGES[setting][0] || value > RANGES[setting][1]) {
            return BAD_VALUE;
        }
        boolean isTooFull = Math.abs(now.jars[0]) > value || Math.abs(now.jars[1]) > value;
        if (setting == 4 && isTooFull) {
            return NOT_POSSIBLE;
        }
        record();
        int previous = now.settings[setting];
        now.settings[setting] = value;
        return previous;
    }

    int touch(int disc, int place, int charge) {
        if (disc < 0 || disc > 1 || place < 0 || place > 11) {
            return NO_SUCH;
        }
        if (charge < -99 || charge > 99) {
            return BAD_VALUE;
        }
        record();
        return doTouch(disc, place, charge);
    }

    private int doTouch(int disc, int place, int charge) {
        int previous = now.discs[disc][place];
        now.put += charge - previous;
        now.discs[disc][place] = charge;
        return previous;
    }

    int turn(int turns) {
        if (turns < 1 || turns > 99) {
            return BAD_VALUE;
        }
        if (now.turns + turns > 99999) {
            return TOO_MANY;
        }
        record();
        return doTurns(turns);
    }

    private int doTurns(int turns) {
        int sparks = 0;
        for (int i = 0; i < turns; i++) {
            sparks += now.turnOnce() ? 1 : 0;
        }
        return sparks;
    }

    int discharge() {
        record();
        return doDischarge();
    }

    private int doDischarge() {
        int differed = Math.abs(now.jars[0] - now.jars[1]);
        now.taken += now.jars[0] + now.jars[1];
        now.jars = new int[2];
        return differed;
    }

    int wipeDisc(int disc) {
        if (disc < 0 || disc > 1) {
            return NO_SUCH;
        }
        record();
        int many = 0;
        for (int charge : now.discs[disc]) {
            many += charge != 0 ? 1 : 0;
            now.taken += charge;
        }
        now.discs[disc] = new int[12];
        return many;
    }

    int run() {
        if (fault() != NONE) {
            return BAD_TEXT;
        }
        record();
        int sparks = 0;
        for (String deed : pad.split(";")) {
            if (deed.equals("x")) {
                doDischarge();
            } else if (deed.startsWith(".")) {
                int turns = Integer.parseInt(deed.substring(1));
                sparks += now.turns + turns > 99999 ? 0 : doTurns(turns);
            } else {
                String[] parts = deed.substring(1).split("=");
                int disc = deed.startsWith("f") ? 0 : 1;
                doTouch(disc, Integer.parseInt(parts[0]), Integer.parseInt(parts[1]));
            }
        }
        pad = "";
        return sparks;
    }

    int sector(int disc, int place) {
        return disc < 0 || disc > 1 || place < 0 || place > 11 ? NO_SUCH : now.discs[disc][place];
    }

    int disc(int disc, int what) {
        if (disc < 0 || disc > 1) {
            return NO_SUCH;
        }
        int[] row = now.discs[disc].clone();
        java.util.Arrays.sort(row);
        switch (what) {
            case 0: return java.util.Arrays.stream(row).sum();
            case 1: return (int) java.util.Arrays.stream(row).filter(charge -> charge > 0).count();
            case 2: return (int) java.util.Arrays.stream(row).filter(charge -> charge < 0).count();
            case 3: return row[11];
            case 4: return row[0];
            default: return BAD_VALUE;
        }
    }

    int jar(int jar, int what) {
        if (jar < 0 || jar > 1) {
            return NO_SUCH;
        }
        switch (what) {
            case 0: return now.jars[jar];
            case 1: return now.took[jar];
            case 2: return now.leaks[jar];
            default: return BAD_VALUE;
        }
    }

    int spark(int ago, int what) {
        if (ago < 0 || what < 0 || what > 2) {
            return BAD_VALUE;
        }
        if (ago > 7 || ago >= now.sparks.size()) {
            return NONE;
        }
        return now.sparks.get(now.sparks.size() - 1 - ago)[what];
    }

    int count(int what) {
        switch (what) {
            case 0: case 1: case 2: case 3: case 4: return now.settings[what];
            case 5: return now.turns;
            case 6: return now.sparks.size();
            case 7: return now.reversals();
            case 8: return now.sign();
            case 9: return now.all();
            case 10: return now.leaked;
            case 11: return now.put;
            case 12: return now.taken;
            case 13: return pad.length();
            case 14: return history.size();
            default: return BAD_VALUE;
        }
    }

    private static int untilSpark(State state, int most) {
        for (int i = 1; i <= most; i++) {
            if (state.turnOnce()) {
                return i;
            }
        }
        return NONE;
    }

    int untilSpark() {
        return untilSpark(now.copy(), 400);
    }

    int ifTurned(int turns, int what) {
        if (turns < 1 || turns > 400 || what < 0 || what > 5) {
            return BAD_VALUE;
        }
        State then = now.copy();
        int greatest = 0;
        for (int i = 0; i < turns; i++) {
            then.turnOnce();
            greatest = Math.max(greatest, Math.abs(then.jars[0] - then.jars[1]));
        }
        int sparks = then.sparks.size() - now.sparks.size();
        int reversals = then.reversals() - now.reversals();
        return new int[] {sparks, reversals, then.jars[0], then.jars[1], greatest, then.all()}[what];
    }

    int widestGap() {
        return greatest(2);
    }

    int mostDamp() {
        return greatest(1);
    }

    private int greatest(int setting) {
        for (int value = RANGES[setting][1]; value >= RANGES[setting][0]; value--) {
            State other = now.copy();
            other.settings[setting] = value;
            if (untilSpark(other, 200) != NONE) {
                return value;
            }
        }
        return NONE;
    }

    int put(long characters) {
        StringBuilder text = new StringBuilder();
        for (int shift = 56; shift >= 0; shift -= 8) {
            int code = (int) (characters >>> shift) & 255;
            if (code == 0 && text.length() == 0) {
                continue;
            }
            if (code < 33 || code > 126) {
                return BAD_VALUE;
            }
            text.append((char) code);
        }
        if (text.length() == 0) {
            return BAD_VALUE;
        }
        if (pad.length() + text.length() > 60) {
            return TOO_MANY;
        }
        pad += text;
        return pad.length();
    }

    int wipe() {
        int length = pad.length();
        pad = "";
        return length;
    }

    int fault() {
        for (int i = 1; i <= pad.length(); i++) {
            Matcher matcher = TEXT.matcher(pad.substring(0, i));
            if (!matcher.matches() && !matcher.hitEnd()) {
                return i - 1;
            }
        }
        return TEXT.matcher(pad).matches() ? NONE : pad.length();
    }

    int undo() {
        if (history.isEmpty()) {
            return NOT_POSSIBLE;
        }
        now = history.remove(history.size() - 1);
        return history.size();
    }

    int save(int slot) {
        if (slot < 0 || slot > 1) {
            return BAD_VALUE;
        }
        slots[slot] = now.copy();
        return now.turns;
    }

    int restore(int slot) {
        if (slot < 0 || slot > 1) {
            return BAD_VALUE;
        }
        if (slots[slot] == null) {
            return NOT_POSSIBLE;
        }
        record();
        now = slots[slot].copy();
        return now.turns;
    }
}
