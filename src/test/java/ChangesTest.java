/** Promises 2 to 7: the changes. */
public final class ChangesTest {
    private static final int NO_SUCH = InfluenceJars.NO_SUCH, BAD_VALUE = InfluenceJars.BAD_VALUE;
    private static final int LEAST = Integer.MIN_VALUE, MOST = Integer.MAX_VALUE;

    public static void main(String[] args) {
        setRanges();
        setHold();
        touch();
        turnMoves();
        turnJoins();
        turnJoinsWithLimits();
        turnGathers();
        turnLeaks();
        turnSparks();
        turnReverses();
        turnsInRange();
        turnsUpToTheMost();
        discharge();
        wipeDisc();
        runDeeds();
        runWithFault();
        Check.end();
    }

    private static void setRanges() {
        int[][] ranges = {{0, 32, 12}, {0, 60, 2}, {1, 200, 30}, {0, 60, 20}, {100, 2000, 1000}};
        for (int setting = 0; setting < 5; setting++) {
            InfluenceJars jars = new InfluenceJars();
            int[] range = ranges[setting];
            String name = "set(" + setting + ", ..)";
            Check.due(name + " too low", jars.set(setting, range[0] - 1), BAD_VALUE);
            Check.due(name + " too high", jars.set(setting, range[1] + 1), BAD_VALUE);
            Check.due(name + " far too low", jars.set(setting, LEAST), BAD_VALUE);
            Check.due(name + " far too high", jars.set(setting, MOST), BAD_VALUE);
            Check.due(name + " unchanged", jars.count(setting), range[2]);
            Check.due("no history of errors", jars.count(14), 0);
            Check.due(name + " least", jars.set(setting, range[0]), range[2]);
            Check.due(name + " most", jars.set(setting, range[1]), range[0]);
            Check.due(name + " changed", jars.count(setting), range[1]);
            Check.due("history", jars.count(14), 2);
        }
        InfluenceJars jars = new InfluenceJars();
        for (int setting : new int[] {-1, 5, LEAST, MOST}) {
            Check.due("set(" + setting + ", 10)", jars.set(setting, 10), BAD_VALUE);
        }
    }

    private static void setHold() {
        for (int sign = -1; sign <= 1; sign += 2) {
            for (int place = 0; place < 12; place += 6) {
                InfluenceJars jars = Machines.calm(200);
                jars.touch(0, (place + 11) % 12, sign * 99);
                jars.touch(1, place + 1, sign * 99);
                jars.turn(1);
                Check.due("jar", jars.jar(place / 6, 0), sign * 198);
                int changes = jars.count(14);
                Check.due("HOLD too low", jars.set(4, 197), InfluenceJars.NOT_POSSIBLE);
                Check.due("HOLD out of range", jars.set(4, 99), BAD_VALUE);
                Check.due("HOLD unchanged", jars.count(4), 1000);
                Check.due("history", jars.count(14), changes);
                Check.due("another setting", jars.set(1, 0), 0);
                Check.due("HOLD just enough", jars.set(4, 198), 1000);
            }
        }
    }

    private static void touch() {
        InfluenceJars jars = new InfluenceJars();
        Check.due("touch(0, 0, 99)", jars.touch(0, 0, 99), 0);
        Check.due("touch(0, 0, -99)", jars.touch(0, 0, -99), 99);
        Check.due("touch(1, 11, 7)", jars.touch(1, 11, 7), 0);
        Check.due("sector(0, 0)", jars.sector(0, 0), -99);
        Check.due("sector(1, 11)", jars.sector(1, 11), 7);
        Check.due("touch(2, 0, 100)", jars.touch(2, 0, 100), NO_SUCH);
        Check.due("touch(-1, 0, 0)", jars.touch(-1, 0, 0), NO_SUCH);
        Check.due("touch(1, 12, -100)", jars.touch(1, 12, -100), NO_SUCH);
        Check.due("touch(1, -1, 0)", jars.touch(1, -1, 0), NO_SUCH);
        Check.due("touch(MIN, MAX, 0)", jars.touch(LEAST, MOST, 0), NO_SUCH);
        Check.due("touch(1, 11, 100)", jars.touch(1, 11, 100), BAD_VALUE);
        Check.due("touch(1, 11, -100)", jars.touch(1, 11, -100), BAD_VALUE);
        Check.due("touch(0, 0, MIN)", jars.touch(0, 0, LEAST), BAD_VALUE);
        Check.due("sector(1, 11) then", jars.sector(1, 11), 7);
        Check.due("count(11)", jars.count(11), -92);
        Check.due("count(14)", jars.count(14), 3);
    }

    private static void turnMoves() {
        InfluenceJars jars = Machines.calm(200);
        jars.touch(0, 0, 40);
        jars.touch(1, 11, -41);
        jars.touch(1, 6, 3);
        Check.due("turn(1)", jars.turn(1), 0);
        Check.due("front 0 to 1", jars.sector(0, 1), 40);
        Check.due("front 0", jars.sector(0, 0), 0);
        Check.due("back 6 to 5", jars.sector(1, 5), 3);
        Check.due("back 11 is halved at 10", jars.sector(1, 10), -21);
        Check.due("back 11 is halved with 4", jars.sector(1, 4), -20);
        Check.due("count(5)", jars.count(5), 1);
        jars.touch(1, 0, 8);
        jars.touch(0, 11, 9);
        jars.turn(1);
        Check.due("back 0 to 11", jars.sector(1, 11), 8);
        Check.due("front 11 to the jar at 0", jars.jar(0, 0), 9);
        Check.due("touch behind turns", jars.touch(1, 11, 1), 8);
    }

    private static void turnJoins() {
        InfluenceJars jars = Machines.calm(200);
        jars.touch(0, 1, -3);
        jars.turn(1);
        Check.due("-3 / 2 at 2", jars.sector(0, 2), -1);
        Check.due("the rest at 8", jars.sector(0, 8), -2);

        jars = Machines.calm(200);
        jars.set(InfluenceJars.GAIN, 16);
        jars.touch(1, 3, -60);
        jars.touch(1, 9, 60);
        jars.turn(1);
        Check.due("drawn to 2 by what the back has", jars.sector(0, 2), 60);
        Check.due("drawn from 8", jars.sector(0, 8), -60);
        Check.due("the back at 2", jars.sector(1, 2), -60);

        jars = Machines.calm(200);
        jars.set(InfluenceJars.GAIN, 12);
        jars.touch(0, 3, 5);
        jars.turn(1);
        Check.due("-5 * 12 / 32 at 4 of the back", jars.sector(1, 4), -1);
        Check.due("and at 10", jars.sector(1, 10), 1);
        Check.due("the front at 4", jars.sector(0, 4), 5);
    }

    private static void turnJoinsWithLimits() {
        InfluenceJars jars = Machines.calm(200);
        jars.set(InfluenceJars.GAIN, 32);
        jars.touch(1, 3, -99);
        jars.touch(1, 9, 99);
        jars.turn(1);
        Check.due("198 is wanted at 2", jars.sector(0, 2), 99);
        Check.due("-99 is left at 8", jars.sector(0, 8), -99);

        jars = Machines.calm(200);
        jars.set(InfluenceJars.GAIN, 32);
        jars.touch(0, 1, 99);
        jars.touch(1, 3, 60);
        jars.touch(1, 9, -60);
        jars.turn(1);
        Check.due("-71 is wanted at 2", jars.sector(0, 2), 0);
        Check.due("but 8 takes no more than 99", jars.sector(0, 8), 99);

        jars = Machines.calm(200);
        jars.set(InfluenceJars.GAIN, 32);
        jars.touch(1, 5, -30);
        jars.touch(0, 3, -99);
        jars.touch(0, 9, 99);
        jars.turn(1);
        Check.due("183 is wanted at 4 of the back", jars.sector(1, 4), 69);
        Check.due("but 10 gives no more than to -99", jars.sector(1, 10), -99);
    }

    private static void turnGathers() {
        InfluenceJars jars = Machines.calm(200);
        jars.set(InfluenceJars.HOLD, 100);
        jars.touch(0, 11, 99);
        jars.touch(1, 1, 99);
        jars.touch(0, 5, -80);
        jars.touch(1, 7, -50);
        jars.turn(1);
        Check.due("jar 0 is full", jars.jar(0, 0), 100);
        Check.due("the front's is taken first", jars.sector(0, 0), 0);
        Check.due("the back's rest stays", jars.sector(1, 0), 98);
        Check.due("jar 1 is full", jars.jar(1, 0), -100);
        Check.due("the front's at 6", jars.sector(0, 6), 0);
        Check.due("the back's rest at 6", jars.sector(1, 6), -30);
        Check.due("taken by jar 0", jars.jar(0, 1), 100);
        Check.due("taken by jar 1", jars.jar(1, 1), -100);
        jars.touch(0, 11, -40);
        jars.turn(1);
        Check.due("a full jar takes what is below 0", jars.jar(0, 0), 60);
    }

    private static void turnLeaks() {
        InfluenceJars jars = Machines.calm(200);
        jars.set(InfluenceJars.DAMP, 50);
        jars.touch(0, 0, -99);
        jars.touch(0, 11, 99);
        jars.touch(0, 6, 1);
        jars.turn(1);
        Check.due("-99 less -49", jars.sector(0, 1), -50);
        Check.due("1 loses nothing", jars.sector(0, 7), 1);
        Check.due("99 less 24", jars.jar(0, 0), 75);
        Check.due("leaked from jar 0", jars.jar(0, 2), 24);
        Check.due("leaked from jar 1", jars.jar(1, 2), 0);
        Check.due("leaked in all", jars.count(10), -25);
        Check.due("left in all", jars.count(9), 26);
    }

    private static void turnSparks() {
        InfluenceJars jars = Machines.calm(1);
        jars.set(InfluenceJars.SWING, 60);
        jars.touch(0, 11, 9);
        Check.due("9 is not enough", jars.turn(1), 0);
        jars.touch(1, 1, 1);
        Check.due("10 is enough", jars.turn(1), 1);
        Check.due("jar 0 behind it", jars.jar(0, 0), 2);
        Check.due("jar 1 behind it", jars.jar(1, 0), 8);
        Check.due("the turn of it", jars.spark(0, 0), 2);
        Check.due("jar 0 ahead of it", jars.spark(0, 1), 10);
        Check.due("jar 1 ahead of it", jars.spark(0, 2), 0);

        jars = Machines.calm(1);
        jars.touch(0, 5, -15);
        jars.touch(0, 2, -16);
        Check.due("two sparks in five turns", jars.turn(5), 2);
        Check.due("the first one", jars.spark(1, 0), 1);
        Check.due("the second one", jars.spark(0, 0), 4);
        Check.due("the first one's jar 1", jars.spark(1, 2), -15);
        // -15: the middle is -7, jar 0 becomes -7 - 7 * 20 / 100 = -8, jar 1 has -7;
        // then jar 1 takes -16: -8 and -23, the middle is -15, jar 0 becomes -15 - 1.
        Check.due("the second one's jar 0", jars.spark(0, 1), -8);
        Check.due("the second one's jar 1", jars.spark(0, 2), -23);
        Check.due("jar 0 behind both", jars.jar(0, 0), -16);
        Check.due("jar 1 behind both", jars.jar(1, 0), -15);
    }

    private static void turnReverses() {
        InfluenceJars jars = Machines.calm(200);
        jars.touch(0, 11, 10);
        jars.turn(1);
        Check.due("sign", jars.count(8), 1);
        Check.due("the first sign is not reversed", jars.count(7), 0);
        jars.discharge();
        Check.due("no sign", jars.count(8), 0);
        jars.turn(1);
        Check.due("0 reverses nothing", jars.count(7), 0);
        jars.touch(0, 5, 10);
        jars.turn(1);
        Check.due("the other sign", jars.count(8), -1);
        Check.due("reversed beyond a 0", jars.count(7), 1);
        jars.turn(3);
        Check.due("the same sign again", jars.count(7), 1);
        jars.discharge();
        jars.touch(0, 5, 10);
        jars.turn(1);
        Check.due("the same sign beyond a 0", jars.count(7), 1);
        jars.discharge();
        jars.touch(0, 11, 10);
        jars.turn(1);
        Check.due("reversed back", jars.count(7), 2);
    }

    private static void turnsInRange() {
        InfluenceJars jars = new InfluenceJars();
        for (int turns : new int[] {0, 100, -1, LEAST, MOST}) {
            Check.due("turn(" + turns + ")", jars.turn(turns), BAD_VALUE);
        }
        Check.due("no turns", jars.count(5), 0);
        Check.due("no history", jars.count(14), 0);
        Check.due("turn(99)", jars.turn(99), 0);
        Check.due("99 turns", jars.count(5), 99);
    }

    /** Within 512 calls no machine comes to 99999 turns: more of them are taken here. */
    private static void turnsUpToTheMost() {
        InfluenceJars jars = new InfluenceJars();
        for (int i = 0; i < 1010; i++) {
            jars.turn(99);
        }
        Check.due("turns so far", jars.count(5), 99990);
        Check.due("turn(10)", jars.turn(10), InfluenceJars.TOO_MANY);
        Check.due("turn(100)", jars.turn(100), BAD_VALUE);
        Check.due("turns then", jars.count(5), 99990);
        Check.write(jars, ".10;.9;.1;f3=4");
        Check.due("run()", jars.run(), 0);
        Check.due("turns behind run()", jars.count(5), 99999);
        Check.due("the deed behind what was passed over", jars.sector(0, 3), 4);
        Check.due("turn(1)", jars.turn(1), InfluenceJars.TOO_MANY);
        Check.due("what if still tells", jars.ifTurned(1, 5), 4);
    }

    private static void discharge() {
        InfluenceJars jars = Machines.calm(200);
        Check.due("discharge() of nothing", jars.discharge(), 0);
        Check.due("is a change", jars.count(14), 4);
        jars.touch(0, 11, 10);
        jars.touch(0, 5, -25);
        jars.turn(1);
        Check.due("discharge()", jars.discharge(), 35);
        Check.due("jar 0", jars.jar(0, 0), 0);
        Check.due("jar 1", jars.jar(1, 0), 0);
        Check.due("taken off", jars.count(12), -15);
        Check.due("what it took stays", jars.jar(1, 1), -25);
    }

    private static void wipeDisc() {
        InfluenceJars jars = Machines.calm(200);
        jars.touch(0, 0, 5);
        jars.touch(0, 4, -7);
        jars.touch(0, 11, -1);
        jars.touch(1, 0, 66);
        Check.due("wipeDisc(2)", jars.wipeDisc(2), NO_SUCH);
        Check.due("wipeDisc(-1)", jars.wipeDisc(-1), NO_SUCH);
        Check.due("wipeDisc(0)", jars.wipeDisc(0), 3);
        Check.due("the front", jars.disc(0, 1) + jars.disc(0, 2), 0);
        Check.due("the back", jars.sector(1, 0), 66);
        Check.due("taken off", jars.count(12), -3);
        Check.due("wipeDisc(0) again", jars.wipeDisc(0), 0);
        Check.due("wipeDisc(1)", jars.wipeDisc(1), 1);
        Check.due("taken off then", jars.count(12), 63);
        Check.due("nothing is left", jars.count(9), 0);
    }

    private static void runDeeds() {
        InfluenceJars jars = Machines.calm(1);
        int changes = jars.count(14);
        Check.write(jars, "f11=10;.1;b7=-20;.1;x;b0=-0;f3=8");
        // 10: jar 0 becomes 5 - 1 = 4, jar 1 has 6; then jar 1 takes -20: 4 and -14 spark, too.
        Check.due("run()", jars.run(), 2);
        Check.due("jar 0 ahead of the last spark", jars.spark(0, 1), 4);
        Check.due("jar 1 ahead of the last spark", jars.spark(0, 2), -14);
        Check.due("turns", jars.count(5), 2);
        Check.due("discharged", jars.jar(0, 0), 0);
        Check.due("taken off", jars.count(12), -10);
        Check.due("put on", jars.count(11), -2);
        Check.due("touched last", jars.sector(0, 3), 8);
        Check.due("the pad is empty", jars.count(13), 0);
        Check.due("one change", jars.count(14), changes + 1);
        Check.due("run() again", jars.run(), InfluenceJars.BAD_TEXT);
        Check.write(jars, "f11=10;.1");
        Check.due("run() with sparks ahead of it", jars.run(), 1);
        Check.due("sparks so far", jars.count(6), 3);
    }

    private static void runWithFault() {
        InfluenceJars jars = new InfluenceJars();
        Check.due("run() of nothing", jars.run(), InfluenceJars.BAD_TEXT);
        Check.write(jars, "f0=5;.100");
        Check.due("run() with a fault", jars.run(), InfluenceJars.BAD_TEXT);
        Check.due("nothing is done", jars.sector(0, 0), 0);
        Check.due("the pad stays", jars.count(13), 9);
        Check.due("no change", jars.count(14), 0);
    }
}
