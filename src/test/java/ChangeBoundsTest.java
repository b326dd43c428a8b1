/** Promises 2 to 7: the edges that their sentences name, where no other test has them alone. */
public final class ChangeBoundsTest {
    private static final int LEAST = Integer.MIN_VALUE, MOST = Integer.MAX_VALUE;

    public static void main(String[] args) {
        setAtEachEnd();
        setToWhatItIs();
        setOfHoldToWhatTheFullerJarHas();
        setOfOtherValuesWithFullJars();
        touchAtEachEnd();
        touchOfTheSameCharge();
        touchBehindTurnsRoundTheDisc();
        turnOnceAndNinetyNineTimes();
        turnTellsItsOwnSparksOnly();
        turnToTheVeryLast();
        dischargeOfNothing();
        dischargeOfJarsAlike();
        dischargeOfFullJars();
        wipeOfAnEmptyDisc();
        wipeOfAFullDisc();
        runOfOneDeedEach();
        runOfAFullPad();
        runTellsItsOwnSparksOnly();
        runEmptiesThePad();
        runPassesOverTurnsThatAreTooMany();
        Check.end();
    }

    /** "(In parentheses: range; first value.)" */
    private static void setAtEachEnd() {
        int[][] ranges = {{0, 32, 12}, {0, 60, 2}, {1, 200, 30}, {0, 60, 20}, {100, 2000, 1000}};
        for (int setting = 0; setting < 5; setting++) {
            int[] range = ranges[setting];
            String name = "setting " + setting;
            InfluenceJars jars = new InfluenceJars();
            Check.due(name + " at first", jars.count(setting), range[2]);
            int previous = range[2];
            for (int value = range[0]; value <= range[1]; value++) {
                Check.due(name + " to " + value, jars.set(setting, value), previous);
                Check.due(name + " then", jars.count(setting), value);
                previous = value;
            }
            for (int value : new int[] {range[0] - 1, range[1] + 1, range[1] + 2, -range[1], LEAST, MOST}) {
                Check.due(name + " to " + value, jars.set(setting, value), InfluenceJars.BAD_VALUE);
                Check.due(name + " stays", jars.count(setting), range[1]);
            }
            for (int other = 0; other < 5; other++) {
                Check.due("the other settings", jars.count(other), other == setting ? range[1] : ranges[other][2]);
            }
        }
    }

    /** "records the state before it (also if nothing is different then)". */
    private static void setToWhatItIs() {
        int[] first = {12, 2, 30, 20, 1000};
        InfluenceJars jars = new InfluenceJars();
        for (int setting = 0; setting < 5; setting++) {
            Check.due("set to what it is", jars.set(setting, first[setting]), first[setting]);
            Check.due("it is a change", jars.count(14), setting + 1);
        }
    }

    private static InfluenceJars withJars(int jar0, int jar1) {
        InfluenceJars jars = Machines.calm(200);
        jars.touch(0, 11, jar0);
        jars.touch(0, 5, jar1);
        jars.turn(1);
        jars.touch(0, 11, jar0);
        jars.touch(0, 5, jar1);
        jars.turn(1);
        Check.due("jar 0", jars.jar(0, 0), 2 * jar0);
        Check.due("jar 1", jars.jar(1, 0), 2 * jar1);
        return jars;
    }

    /** "NOT_POSSIBLE if a jar has more charge than HOLD would let it": either jar, either sign. */
    private static void setOfHoldToWhatTheFullerJarHas() {
        int[][] rows = {{60, 80, 160}, {80, 60, 160}, {-60, -80, 160}, {-80, -60, 160}, {99, -70, 198}, {-70, 99, 198},
            {70, -99, 198}, {-99, 70, 198}, {51, 51, 102}, {-51, 51, 102}};
        for (int[] row : rows) {
            InfluenceJars jars = withJars(row[0], row[1]);
            Check.due("one less", jars.set(InfluenceJars.HOLD, row[2] - 1), InfluenceJars.NOT_POSSIBLE);
            Check.due("just enough", jars.set(InfluenceJars.HOLD, row[2]), 1000);
            Check.due("jar 0 keeps it", jars.jar(0, 0), 2 * row[0]);
            Check.due("jar 1 keeps it", jars.jar(1, 0), 2 * row[1]);
            Check.due("up again", jars.set(InfluenceJars.HOLD, 2000), row[2]);
        }
        InfluenceJars jars = withJars(50, -50);
        Check.due("100 of 100", jars.set(InfluenceJars.HOLD, 100), 1000);
        jars = withJars(99, -99);
        jars.discharge();
        Check.due("100 of nothing", jars.set(InfluenceJars.HOLD, 100), 1000);
    }

    private static void setOfOtherValuesWithFullJars() {
        InfluenceJars jars = withJars(99, -99);
        jars.set(InfluenceJars.HOLD, 198);
        Check.due("GAIN", jars.set(InfluenceJars.GAIN, 32), 0);
        Check.due("DAMP", jars.set(InfluenceJars.DAMP, 60), 0);
        Check.due("GAP", jars.set(InfluenceJars.GAP, 1), 200);
        Check.due("SWING", jars.set(InfluenceJars.SWING, 60), 20);
        Check.due("no spark jumps before a turn", jars.count(6), 0);
        Check.due("HOLD", jars.set(InfluenceJars.HOLD, 198), 198);
    }

    /** "charge: -99 to 99"; at the places 0 and 11 of each disc. */
    private static void touchAtEachEnd() {
        for (int disc = 0; disc < 2; disc++) {
            for (int place = 0; place < 12; place += 11) {
                InfluenceJars jars = new InfluenceJars();
                Check.due("99", jars.touch(disc, place, 99), 0);
                Check.due("-99", jars.touch(disc, place, -99), 99);
                Check.due("put on so far", jars.count(11), -99);
                Check.due("100", jars.touch(disc, place, 100), InfluenceJars.BAD_VALUE);
                Check.due("-100", jars.touch(disc, place, -100), InfluenceJars.BAD_VALUE);
                Check.due("0", jars.touch(disc, place, 0), -99);
                Check.due("put on in all", jars.count(11), 0);
                Check.due("disc -1", jars.touch(-1, place, 1), InfluenceJars.NO_SUCH);
                Check.due("disc 2", jars.touch(2, place, 1), InfluenceJars.NO_SUCH);
                Check.due("nothing is there", jars.disc(0, 1) + jars.disc(1, 1), 0);
            }
            InfluenceJars jars = new InfluenceJars();
            Check.due("place -1", jars.touch(disc, -1, 1), InfluenceJars.NO_SUCH);
            Check.due("place 12", jars.touch(disc, 12, 1), InfluenceJars.NO_SUCH);
            Check.due("no changes", jars.count(14), 0);
        }
    }

    private static void touchOfTheSameCharge() {
        InfluenceJars jars = new InfluenceJars();
        Check.due("0 on 0", jars.touch(1, 4, 0), 0);
        Check.due("is a change", jars.count(14), 1);
        jars.touch(1, 4, -8);
        Check.due("-8 on -8", jars.touch(1, 4, -8), -8);
        Check.due("is a change, too", jars.count(14), 3);
        Check.due("put on", jars.count(11), -8);
    }

    /** A place stays where it is, whichever sector stands there behind turns left over by 12. */
    private static void touchBehindTurnsRoundTheDisc() {
        InfluenceJars jars = Machines.calm(200);
        for (int turns = 0; turns <= 26; turns++) {
            for (int disc = 0; disc < 2; disc++) {
                for (int place = 0; place < 12; place++) {
                    Check.due("nothing there", jars.touch(disc, place, place - 50), 0);
                    Check.due("the charge", jars.sector(disc, place), place - 50);
                    Check.due("the sum", jars.disc(disc, 0), place - 50);
                    Check.due("away again", jars.touch(disc, place, 0), place - 50);
                }
            }
            jars.turn(1);
        }
    }

    private static void turnOnceAndNinetyNineTimes() {
        InfluenceJars jars = new InfluenceJars();
        Check.due("turn(1)", jars.turn(1), 0);
        Check.due("1 turn", jars.count(5), 1);
        Check.due("turn(99)", jars.turn(99), 0);
        Check.due("100 turns", jars.count(5), 100);
        Check.due("turn(0)", jars.turn(0), InfluenceJars.BAD_VALUE);
        Check.due("turn(100)", jars.turn(100), InfluenceJars.BAD_VALUE);
        Check.due("100 turns then", jars.count(5), 100);
        Check.due("two changes", jars.count(14), 2);
    }

    /** "Returns how many sparks jump in them": 99 turns at once, and one by one. */
    private static void turnTellsItsOwnSparksOnly() {
        InfluenceJars jars = new InfluenceJars();
        InfluenceJars slow = new InfluenceJars();
        Twins.busy(jars);
        Twins.busy(slow);
        Check.holds("sparks ahead of it", jars.count(6) > 0);
        int sparks = 0;
        for (int i = 0; i < 99; i++) {
            int one = slow.turn(1);
            Check.holds("one spark a turn, or none", one == 0 || one == 1);
            sparks += one;
        }
        Check.holds("more than one spark", sparks > 1);
        Check.due("turn(99)", jars.turn(99), sparks);
        Machines.dueState("99 turns", jars, Machines.state(slow));
    }

    /** "TOO_MANY if the turns would be above 99999": 99999 itself is not above it. */
    private static void turnToTheVeryLast() {
        for (int left : new int[] {1, 2, 98, 99}) {
            InfluenceJars jars = new InfluenceJars();
            for (int i = 0; i < 1009; i++) {
                jars.turn(99);
            }
            jars.turn(Math.min(99, 108 - left));
            jars.turn(108 - left > 99 ? 9 - left : 0);
            Check.due("turns so far", jars.count(5), 99999 - left);
            Check.due("one more than is left", jars.turn(left + 1), left == 99 ? InfluenceJars.BAD_VALUE
                    : InfluenceJars.TOO_MANY);
            Check.due("all that are left", jars.turn(left), 0);
            Check.due("99999", jars.count(5), 99999);
            Check.due("no more", jars.turn(1), InfluenceJars.TOO_MANY);
        }
    }

    /** "Returns by how much their charges differed (0 or more)." */
    private static void dischargeOfNothing() {
        InfluenceJars jars = new InfluenceJars();
        Check.due("discharge()", jars.discharge(), 0);
        Check.due("is a change", jars.count(14), 1);
        Check.due("nothing is taken off", jars.count(12), 0);
    }

    private static void dischargeOfJarsAlike() {
        for (int charge = -30; charge <= 30; charge += 60) {
            InfluenceJars jars = withJars(charge, charge);
            Check.due("discharge()", jars.discharge(), 0);
            Check.due("jar 0", jars.jar(0, 0), 0);
            Check.due("jar 1", jars.jar(1, 0), 0);
            Check.due("taken off", jars.count(12), 4 * charge);
        }
        InfluenceJars jars = withJars(3, 40);
        Check.due("the jar 1 above", jars.discharge(), 74);
        jars = withJars(40, 3);
        Check.due("the jar 0 above", jars.discharge(), 74);
    }

    private static void dischargeOfFullJars() {
        InfluenceJars jars = Machines.calm(200);
        jars.set(InfluenceJars.HOLD, 2000);
        for (int i = 0; i < 10; i++) {
            jars.touch(0, 11, 99);
            jars.touch(1, 1, 99);
            jars.turn(1);
        }
        for (int i = 0; i < 10; i++) {
            jars.touch(0, 5, 99);
            jars.touch(1, 7, 99);
            jars.turn(1);
        }
        jars.touch(0, 11, 99);
        jars.turn(1);
        Check.due("2000 and 1980", jars.discharge(), 20);
        Check.due("taken off", jars.count(12), 3980);
        Check.due("no sign is left", jars.count(8), 0);
    }

    /** "Returns how many of them had one". */
    private static void wipeOfAnEmptyDisc() {
        InfluenceJars jars = new InfluenceJars();
        jars.touch(1, 5, 9);
        Check.due("wipeDisc(0)", jars.wipeDisc(0), 0);
        Check.due("is a change", jars.count(14), 2);
        Check.due("nothing is taken off", jars.count(12), 0);
        Check.due("the other disc keeps it", jars.sector(1, 5), 9);
    }

    private static void wipeOfAFullDisc() {
        for (int disc = 0; disc < 2; disc++) {
            InfluenceJars jars = new InfluenceJars();
            for (int place = 0; place < 12; place++) {
                jars.touch(disc, place, place % 2 == 0 ? 99 : -98);
                jars.touch(1 - disc, place, -1);
            }
            Check.due("12 sectors", jars.wipeDisc(disc), 12);
            Check.due("taken off", jars.count(12), 6);
            Check.due("greatest", jars.disc(disc, 3), 0);
            Check.due("least", jars.disc(disc, 4), 0);
            Check.due("the other disc", jars.disc(1 - disc, 0), -12);
            Check.due("the other disc", jars.wipeDisc(1 - disc), 12);
            Check.due("taken off in all", jars.count(12), -6);
        }
    }

    /** "touch(), turn(), discharge()": each deed does what the method does, and is one change. */
    private static void runOfOneDeedEach() {
        String[] deeds = {"f0=99", "f11=-99", "b0=-99", "b11=99", "f10=0", "b9=-0", ".1", ".99", ".50", "x"};
        Twins.Call[] calls = {jars -> jars.touch(0, 0, 99), jars -> jars.touch(0, 11, -99),
            jars -> jars.touch(1, 0, -99), jars -> jars.touch(1, 11, 99), jars -> jars.touch(0, 10, 0),
            jars -> jars.touch(1, 9, 0), jars -> jars.turn(1), jars -> jars.turn(99), jars -> jars.turn(50),
            jars -> jars.discharge()};
        for (int i = 0; i < deeds.length; i++) {
            InfluenceJars jars = new InfluenceJars();
            InfluenceJars other = new InfluenceJars();
            Twins.busy(jars);
            Twins.busy(other);
            jars.wipe();
            Check.write(jars, deeds[i]);
            long answer = calls[i].on(other);
            Check.due("run() of " + deeds[i], jars.run(), deeds[i].charAt(0) == '.' ? answer : 0);
            Machines.dueState(deeds[i], jars, Machines.state(other));
            jars.undo();
            other.undo();
            Machines.dueState("undo() of " + deeds[i], jars, Machines.state(other));
        }
    }

    private static void runOfAFullPad() {
        InfluenceJars jars = Machines.calm(200);
        String text = "f0=1;f1=1;f2=1;f3=1;b0=1;b1=1;b2=1;b3=1;b11=-99;.1;f11=-99;x";
        Check.write(jars, text);
        Check.due("length", jars.count(13), 60);
        Check.due("60 characters, the last one a deed", jars.fault(), InfluenceJars.NONE);
        Check.due("run()", jars.run(), 0);
        Check.due("length then", jars.count(13), 0);
        Check.due("turns", jars.count(5), 1);
        Check.due("the last deed but one", jars.sector(0, 11), -99);
        Check.due("the last deed takes off what came from the back's 1", jars.count(12), 1);
        Check.due("the back's 2 is at 1", jars.sector(1, 1), 1);
        Check.due("one change", jars.count(14), 4);
    }

    /** "Returns how many sparks jump by them". */
    private static void runTellsItsOwnSparksOnly() {
        InfluenceJars jars = Machines.calm(1);
        jars.touch(0, 11, 50);
        Check.due("a spark ahead of it", jars.turn(1), 1);
        jars.discharge();
        Check.write(jars, "f11=30;.3;x;b7=-30;.2");
        Check.due("run() of two sparks", jars.run(), 2);
        Check.due("sparks so far", jars.count(6), 3);
        Check.write(jars, "x;.3");
        Check.due("run() of none", jars.run(), 0);
    }

    private static void runEmptiesThePad() {
        InfluenceJars jars = new InfluenceJars();
        Check.write(jars, "f3=5");
        jars.run();
        Check.due("the pad is empty", jars.wipe(), 0);
        Check.due("an empty pad has the fault 0", jars.fault(), 0);
        Check.due("run() of it", jars.run(), InfluenceJars.BAD_TEXT);
        Check.write(jars, "x");
        Check.due("what is put then stands alone", jars.run(), 0);
        Check.due("two changes", jars.count(14), 2);
        Check.due("the first one's charge", jars.sector(0, 3), 5);
    }

    /** "turns by which they would be above 99999 are passed over". */
    private static void runPassesOverTurnsThatAreTooMany() {
        InfluenceJars jars = new InfluenceJars();
        for (int i = 0; i < 1010; i++) {
            jars.turn(99);
        }
        jars.turn(3);
        Check.due("turns", jars.count(5), 99993);
        Check.write(jars, ".7;f3=8;.99;.4;.3;.2;.1;b3=9");
        Check.due("run()", jars.run(), 0);
        Check.due("4 and 2 are done, no more", jars.count(5), 99999);
        Check.due("front, 6 turns on", jars.sector(0, 9) + jars.sector(0, 3), 0);
        Check.due("the jar 1 took it", jars.jar(1, 1) + jars.jar(0, 1), 8);
        Check.due("the last deed is done", jars.sector(1, 3), 9);
        Check.write(jars, ".1");
        Check.due("run() of what is passed over", jars.run(), 0);
        Check.due("empties the pad", jars.count(13), 0);
        Check.due("99999", jars.count(5), 99999);
        int changes = 0;
        while (jars.undo() != InfluenceJars.NOT_POSSIBLE) {
            changes++;
        }
        Check.due("six changes", changes, 6);
    }
}
