/** Promises 17 to 19 and "Texts": the edges that their sentences name, where no other test has them alone. */
public final class TextBoundsTest {
    private static final int BAD_VALUE = InfluenceJars.BAD_VALUE, TOO_MANY = InfluenceJars.TOO_MANY;
    private static final int NONE = InfluenceJars.NONE;

    public static void main(String[] args) {
        putOfOneToEightCharacters();
        putOfNoCharacter();
        putOfEachCode();
        putWithAGap();
        putWithBitsAboveAGap();
        putUpToSixty();
        putIsInOrder();
        wipeOfEachLength();
        faultOfAnEmptyPad();
        faultOfEachFirstCharacter();
        faultOfEachCharacterBehind();
        numbersAtTheirEnds();
        minusZeroCanStand();
        textsThatEndTooEarly();
        faultsOfFullPads();
        theFirstFaultCounts();
        Check.end();
    }

    /** "characters: 1 to 8 characters"; the lowest 8 bits are the last one. */
    private static void putOfOneToEightCharacters() {
        String text = ".1;x;f0=";
        for (int many = 1; many <= 8; many++) {
            InfluenceJars jars = new InfluenceJars();
            Check.due("put of " + many, jars.put(Check.number(text.substring(0, many))), many);
            Check.due("length", jars.count(13), many);
            boolean isWhole = many == 2 || many == 4;
            Check.due("fault", jars.fault(), isWhole ? NONE : many);
            Check.due("put of as many again", jars.put(Check.number(text.substring(0, many))), 2 * many);
        }
    }

    private static void putOfNoCharacter() {
        InfluenceJars jars = new InfluenceJars();
        Check.due("put(0)", jars.put(0), BAD_VALUE);
        jars.put('x');
        Check.due("put(0) behind x", jars.put(0), BAD_VALUE);
        Check.due("length", jars.count(13), 1);
    }

    /** "a code is not 33 to 126": each code, at each place of a number. */
    private static void putOfEachCode() {
        for (int code = 0; code < 256; code++) {
            for (int at = 0; at < 8; at++) {
                for (int many = Math.max(at + 1, 1); many <= 8; many++) {
                    long number = 0;
                    for (int i = many - 1; i >= 0; i--) {
                        number = number << 8 | (i == at ? code : 'x');
                    }
                    int due = code >= 33 && code <= 126 ? many : BAD_VALUE;
                    if (code == 0 && at == many - 1) {
                        due = many == 1 ? BAD_VALUE : many - 1;
                    }
                    InfluenceJars jars = new InfluenceJars();
                    Check.due("code " + code + " at " + at + " of " + many, jars.put(number), due);
                    Check.due("length", jars.count(13), Math.max(due, 0));
                }
            }
        }
    }

    /** "8 bits that are 0 mean that there are no more characters": not below a character. */
    private static void putWithAGap() {
        InfluenceJars jars = new InfluenceJars();
        for (int at = 0; at < 7; at++) {
            long gap = 0x7878787878787878L & ~(255L << (8 * at));
            Check.due("a gap at " + at, jars.put(gap), BAD_VALUE);
            Check.due("a gap at " + at + " alone", jars.put((long) 'x' << 8 * (at + 1)), BAD_VALUE);
        }
        Check.due("nothing is put", jars.count(13), 0);
        Check.due("no gap, but no more", jars.put(0x0078787878787878L), 7);
    }

    /** "or a bit above 8 bits that are 0 is not 0": each bit above each gap. */
    private static void putWithBitsAboveAGap() {
        InfluenceJars jars = new InfluenceJars();
        for (int many = 1; many < 7; many++) {
            long text = 0x7878787878787878L >>> (64 - 8 * many);
            for (int bit = 8 * many + 8; bit < 64; bit++) {
                Check.due("bit " + bit + " above " + many, jars.put(text | 1L << bit), BAD_VALUE);
            }
        }
        Check.due("nothing is put", jars.count(13), 0);
        for (int bit = 0; bit < 64; bit++) {
            boolean isCode = bit == 5 || bit == 6;
            Check.due("bit " + bit + " alone", jars.put(1L << bit), bit == 6 ? 1 : BAD_VALUE);
            Check.holds("64 is a code, 32 is none", !isCode || jars.count(13) == bit - 5);
        }
    }

    /** "TOO_MANY if the pad would be longer than 60": each length behind each length. */
    private static void putUpToSixty() {
        for (int length = 50; length <= 60; length++) {
            for (int many = 1; many <= 8; many++) {
                InfluenceJars jars = new InfluenceJars();
                Check.write(jars, "f".repeat(length));
                int due = length + many <= 60 ? length + many : TOO_MANY;
                String name = many + " behind " + length;
                Check.due(name, jars.put(Check.number("b".repeat(many))), due);
                Check.due(name + ", length", jars.count(13), due == TOO_MANY ? length : due);
                Check.due(name + ", wiped", jars.wipe(), due == TOO_MANY ? length : due);
                Check.due(name + ", from the start", jars.put(Check.number("b".repeat(many))), many);
            }
        }
    }

    /** Deeds cut anywhere are put together again. */
    private static void putIsInOrder() {
        String text = "f10=12;b3=-45;.21;f9=7;f10=8;b4=99;f1=-3";
        for (int step = 1; step <= 8; step++) {
            InfluenceJars jars = Machines.calm(200);
            for (int i = 0; i < text.length(); i += step) {
                String part = text.substring(i, Math.min(i + step, text.length()));
                Check.due("put(" + part + ")", jars.put(Check.number(part)), i + part.length());
            }
            Check.due("fault", jars.fault(), NONE);
            Check.due("run", jars.run(), 0);
            int[] got = {jars.count(5), jars.sector(0, 9), jars.sector(0, 10), jars.sector(1, 4), jars.sector(0, 1)};
            int[] due = {21, 7, 8, 99, -3};
            for (int i = 0; i < due.length; i++) {
                Check.due("number " + i + ", put by " + step, got[i], due[i]);
            }
        }
    }

    /** "Empties the pad, and returns the length that it had": 0 to 60. */
    private static void wipeOfEachLength() {
        InfluenceJars jars = new InfluenceJars();
        for (int length = 0; length <= 60; length++) {
            Check.write(jars, "~".repeat(length));
            Check.due("wipe()", jars.wipe(), length);
            Check.due("length", jars.count(13), 0);
            Check.due("fault()", jars.fault(), 0);
        }
        Check.due("wipe() is no change", jars.count(14), 0);
    }

    private static void dueFault(String text, int due) {
        InfluenceJars jars = new InfluenceJars();
        Check.write(jars, text);
        Check.due("length of " + text, jars.count(13), text.length());
        Check.due("fault of " + text, jars.fault(), due);
        Check.due("length behind it", jars.count(13), text.length());
        int ran = jars.run();
        Check.due("run() of " + text, ran, due == NONE ? 0 : InfluenceJars.BAD_TEXT);
        Check.due("length behind run()", jars.count(13), due == NONE ? 0 : text.length());
        Check.due("changes", jars.count(14), due == NONE ? 1 : 0);
    }

    /** "also if it is empty": at first, behind wipe() and behind run(). */
    private static void faultOfAnEmptyPad() {
        dueFault("", 0);
        InfluenceJars jars = new InfluenceJars();
        Check.write(jars, "xyz");
        jars.wipe();
        Check.due("behind wipe()", jars.fault(), 0);
        Check.write(jars, "f3=1");
        jars.run();
        Check.due("behind run()", jars.fault(), 0);
    }

    /** "the first character that cannot stand at its place": each one at the start of a text. */
    private static void faultOfEachFirstCharacter() {
        for (char sign = 33; sign <= 126; sign++) {
            int due = sign == 'x' ? NONE : "fb.".indexOf(sign) >= 0 ? 1 : 0;
            dueFault("" + sign, due);
            dueFault("x;" + sign, due == NONE ? NONE : due + 2);
        }
    }

    /** Each character behind each kind of beginning: which of them can stand there. */
    private static void faultOfEachCharacterBehind() {
        String digits = "0123456789";
        // A beginning, what can stand behind it, and whether that makes a whole text.
        String[][] rows = {{"f", digits, ""}, {"b", digits, ""}, {"f0", "=", ""}, {"f1", "01=", ""}, {"b2", "=", ""},
            {"b9", "=", ""}, {"f10", "=", ""}, {"b11", "=", ""}, {"f3=", "-" + digits, digits},
            {"f3=-", digits, digits}, {"f3=0", ";", ""}, {"f3=-0", ";", ""}, {"f3=1", ";" + digits, digits},
            {"f3=-9", ";" + digits, digits}, {"f3=10", ";", ""}, {"f3=-99", ";", ""}, {".", "123456789", "123456789"},
            {".1", ";" + digits, digits}, {".9", ";" + digits, digits}, {".10", ";", ""}, {".99", ";", ""},
            {"x", ";", ""}, {"x;", "fb.x", "x"}, {"f3=4;", "fb.x", "x"}, {".5;", "fb.x", "x"}};
        for (String[] row : rows) {
            for (char sign = 33; sign <= 126; sign++) {
                String text = row[0] + sign;
                boolean canStand = row[1].indexOf(sign) >= 0;
                boolean isWhole = row[2].indexOf(sign) >= 0;
                dueFault(text, isWhole ? NONE : canStand ? text.length() : text.length() - 1);
            }
        }
    }

    /** "a place a number from 0 to 11, a number one from 0 to 99, turns a number from 1 to 99". */
    private static void numbersAtTheirEnds() {
        for (int number = 0; number <= 130; number++) {
            int digits = number > 99 ? 3 : number > 9 ? 2 : 1;
            dueFault("f" + number + "=5", number <= 11 ? NONE : number >= 100 && number < 120 ? 3 : 2);
            dueFault("b5=" + number, number <= 99 ? NONE : 5);
            dueFault("b5=-" + number, number <= 99 ? NONE : 6);
            dueFault("." + number, number == 0 ? 1 : number <= 99 ? NONE : 3);
            if (digits < 3) {
                dueFault("f0" + number + "=5", 2);
                dueFault("b5=0" + number, 4);
                dueFault("b5=-0" + number, 5);
                dueFault(".0" + number, 1);
            }
        }
    }

    /** "-0" can stand: it is the charge 0. */
    private static void minusZeroCanStand() {
        InfluenceJars jars = new InfluenceJars();
        jars.touch(0, 5, 44);
        Check.write(jars, "f5=-0");
        Check.due("fault", jars.fault(), NONE);
        Check.due("run()", jars.run(), 0);
        Check.due("the charge", jars.sector(0, 5), 0);
        Check.due("put on", jars.count(11), 0);
        dueFault("f-0=1", 1);
        dueFault(".-0", 1);
    }

    /** "the text ends too early .., it is the length of the text": each beginning of a text. */
    private static void textsThatEndTooEarly() {
        String text = "f10=-45;.12;x;b3=0";
        String lengthsOfWholeTexts = " 6 7 10 11 13 18 ";
        for (int length = 0; length <= text.length(); length++) {
            boolean isWhole = lengthsOfWholeTexts.contains(" " + length + " ");
            dueFault(text.substring(0, length), isWhole ? NONE : length);
        }
    }

    /** Pads of 60 characters: whole, ending too early, and with the last character a fault. */
    private static void faultsOfFullPads() {
        String deeds = "x;".repeat(28);
        dueFault(deeds + "f3=4", NONE);
        dueFault(deeds + "b1=-", 60);
        dueFault(deeds + "x;b1", 60);
        dueFault(deeds + "x;x;", 60);
        dueFault(deeds + "x;.1", NONE);
        dueFault(deeds + "x;.0", 59);
        dueFault(deeds + "f3=x", 59);
        dueFault(deeds + "xxxx", 57);
        dueFault(";" + deeds + "f3=", 0);
        dueFault("~".repeat(60), 0);
    }

    /** "the index of the first character": later ones have no say. */
    private static void theFirstFaultCounts() {
        dueFault("x;f12=1;.0", 4);
        dueFault("x;f1=1;.0;y", 8);
        dueFault("yy", 0);
        dueFault("x;y;", 2);
        dueFault("f0=5;f0=5;f0=5=;", 14);
    }
}
