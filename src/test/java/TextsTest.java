/** Promises 17 to 19, and the texts that promise 7 reads. */
public final class TextsTest {
    private static final int NONE = InfluenceJars.NONE, BAD_VALUE = InfluenceJars.BAD_VALUE;

    public static void main(String[] args) {
        put();
        putNoCharacters();
        putTooMany();
        wipe();
        faults();
        longTexts();
        allSmallNumbers();
        Check.end();
    }

    private static void put() {
        InfluenceJars jars = new InfluenceJars();
        Check.due("put(x)", jars.put('x'), 1);
        Check.due("put(;f3=-45;)", jars.put(Check.number(";f3=-45;")), 9);
        Check.due("put(b11=9)", jars.put(Check.number("b11=9")), 14);
        Check.due("put(33)", jars.put(33), 15);
        Check.due("put(126)", jars.put(126), 16);
        Check.due("the order of the characters", jars.fault(), 14);
        Check.due("length", jars.count(13), 16);
        Check.due("no change", jars.count(14), 0);
    }

    private static void putNoCharacters() {
        InfluenceJars jars = new InfluenceJars();
        long[] bad = {0, -1, 1, 32, 127, 128, 255, 0x7800L, 0x780078L, 0x7800000000000000L,
                0x7800000000000078L, 0x7F78L, 0x2078L, 0x7820L, 0x8078787878787878L,
                0xF878787878787878L, 0x7F78787878787878L, 0x2078787878787878L,
                Long.MIN_VALUE, Long.MAX_VALUE, Long.MIN_VALUE + 'x', 1L << 32};
        for (long characters : bad) {
            Check.due("put(" + characters + ")", jars.put(characters), BAD_VALUE);
        }
        Check.due("the pad stays empty", jars.count(13), 0);
    }

    private static void putTooMany() {
        InfluenceJars jars = new InfluenceJars();
        for (int i = 1; i <= 7; i++) {
            Check.due("put(8 characters)", jars.put(Check.number("12345678")), 8 * i);
        }
        Check.due("61 characters", jars.put(Check.number("12345")), InfluenceJars.TOO_MANY);
        Check.due("64 characters", jars.put(Check.number("12345678")), InfluenceJars.TOO_MANY);
        Check.due("length", jars.count(13), 56);
        Check.due("60 characters", jars.put(Check.number("1234")), 60);
        Check.due("one more", jars.put('1'), InfluenceJars.TOO_MANY);
        Check.due("a bad one", jars.put(32), BAD_VALUE);
        Check.due("length then", jars.count(13), 60);
    }

    private static void wipe() {
        InfluenceJars jars = new InfluenceJars();
        Check.write(jars, "f1=3;.9;bad");
        Check.due("wipe()", jars.wipe(), 11);
        Check.due("length", jars.count(13), 0);
        Check.due("wipe() again", jars.wipe(), 0);
        Check.due("no change", jars.count(14), 0);
        jars.put('x');
        Check.due("nothing old is left", jars.fault(), NONE);
    }

    private static void faults() {
        String[] texts = {"", "x", "x;", ";x", "x;;x", "xx", "X", "F0=1", "g", "!", "~",
                "f", "b", "f0", "b3", "f0=", "f0=-", "f=1", "f-1=0", "fb", "f05", "f12", "f20",
                "f9=9", "f10=10", "b11=99", "f0=-0", "f0=0", "f0=00", "f0=01", "f0=-00", "f0=-99",
                "f0=100", "f0=-100", "f0=--1", "f0=+1", "f0-1", "f0==1", "f0=5x", "f0=5-", "f0=5=",
                ".", ".0", ".01", ".1", ".10", ".99", ".100", ".-1", ".5.5", ".9x", ".9=", "..",
                "x;f3=7;.20;x", "f1=1;f12=1", "x;f", "x;f1=", "x;.", "f1,1", "x,x", "x;b2=7;y", "=", "-1", "5"};
        int[] due = {0, NONE, 2, 0, 2, 1, 0, 0, 0, 0, 0,
                1, 1, 2, 2, 3, 4, 1, 1, 1, 2, 2, 2,
                NONE, NONE, NONE, NONE, NONE, 4, 4, 5, NONE,
                5, 6, 4, 3, 2, 3, 4, 4, 4,
                1, 1, 1, NONE, NONE, NONE, 3, 1, 2, 2, 2, 1,
                NONE, 7, 3, 5, 3, 2, 1, 7, 0, 0, 0};
        Check.due("as many faults as texts", due.length, texts.length);
        for (int i = 0; i < texts.length; i++) {
            InfluenceJars jars = new InfluenceJars();
            Check.write(jars, texts[i]);
            Check.due("fault of " + texts[i], jars.fault(), due[i]);
            Check.due("fault again", jars.fault(), due[i]);
            Check.due("length", jars.count(13), texts[i].length());
            int ran = jars.run();
            Check.due("run of " + texts[i], ran, due[i] == NONE ? 0 : InfluenceJars.BAD_TEXT);
        }
    }

    private static void longTexts() {
        StringBuilder text = new StringBuilder("x");
        for (int i = 0; i < 29; i++) {
            text.append(";x");
        }
        InfluenceJars jars = new InfluenceJars();
        Check.write(jars, text.toString());
        Check.due("30 deeds", jars.fault(), NONE);
        jars.put(';');
        Check.due("60 characters that end too early", jars.fault(), 60);
        Check.due("run()", jars.run(), InfluenceJars.BAD_TEXT);
        jars.wipe();
        Check.write(jars, ".1" + text.substring(1));
        Check.due("60 characters", jars.count(13), 60);
        Check.due("without a fault", jars.fault(), NONE);
        Check.due("run() of them", jars.run(), 0);
        Check.due("turns", jars.count(5), 1);
    }

    private static void allSmallNumbers() {
        for (int number = 0; number < 120; number++) {
            InfluenceJars jars = new InfluenceJars();
            Check.write(jars, "b" + number + "=1");
            Check.due("place " + number, jars.run() == 0 ? jars.sector(1, number) : -1, number < 12 ? 1 : -1);
            jars = new InfluenceJars();
            Check.write(jars, "f7=-" + number);
            jars.run();
            Check.due("charge -" + number, jars.sector(0, 7), number < 100 ? -number : 0);
            jars = new InfluenceJars();
            Check.write(jars, "." + number);
            jars.run();
            Check.due("turns " + number, jars.count(5), number < 100 ? number : 0);
        }
    }
}
