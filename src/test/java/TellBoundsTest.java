/** Promises 8 to 16: the edges that their sentences name, where no other test has them alone. */
public final class TellBoundsTest {
    private static final int NO_SUCH = InfluenceJars.NO_SUCH, BAD_VALUE = InfluenceJars.BAD_VALUE;
    private static final int NONE = InfluenceJars.NONE;
    private static final int LEAST = Integer.MIN_VALUE, MOST = Integer.MAX_VALUE;

    public static void main(String[] args) {
        sectorAtEachEnd();
        discOfLeastAndMost();
        discWithOneCharge();
        jarThatTakesAndLosesBothSigns();
        jarOutOfRange();
        sparkOfAShortLog();
        sparkInTheFirstTurn();
        sparksOfOneCallInTheLog();
        sparkOutOfRange();
        countOfPadAndHistory();
        countOutOfRange();
        countsOfChargeWithSigns();
        untilSparkAtOnce();
        untilSparkAtTheEnd();
        ifTurnedOnce();
        ifTurnedLeavesOutWhatIsNow();
        ifTurnedOfNothing();
        ifTurnedTellsItsOwnTurnsOnly();
        ifTurnedAtTheEnd();
        ifTurnedTellsTheSignBefore();
        widestGapAtEachEnd();
        widestGapInTheLastTurn();
        widestGapOfAnyTurn();
        mostDampAtEachEnd();
        mostDampInTheLastTurn();
        searchesLeaveSettingsAlone();
        Check.end();
    }

    private static void sectorAtEachEnd() {
        InfluenceJars jars = new InfluenceJars();
        for (int disc = 0; disc < 2; disc++) {
            jars.touch(disc, 0, -99);
            jars.touch(disc, 11, 99);
            Check.due("place 0", jars.sector(disc, 0), -99);
            Check.due("place 11", jars.sector(disc, 11), 99);
            Check.due("place -1", jars.sector(disc, -1), NO_SUCH);
            Check.due("place 12", jars.sector(disc, 12), NO_SUCH);
        }
        Check.due("disc -1", jars.sector(-1, 0), NO_SUCH);
        Check.due("disc 2", jars.sector(2, 0), NO_SUCH);
        Check.due("neither", jars.sector(LEAST, MOST), NO_SUCH);
    }

    private static void discOfLeastAndMost() {
        for (int disc = 0; disc < 2; disc++) {
            for (int sign = -1; sign <= 1; sign += 2) {
                InfluenceJars jars = new InfluenceJars();
                for (int place = 0; place < 12; place++) {
                    jars.touch(disc, place, sign * 99);
                }
                int[] due = {sign * 1188, sign > 0 ? 12 : 0, sign > 0 ? 0 : 12, sign * 99, sign * 99};
                for (int what = 0; what < 5; what++) {
                    Check.due("full disc, " + what, jars.disc(disc, what), due[what]);
                    Check.due("empty disc, " + what, jars.disc(1 - disc, what), 0);
                }
                Check.due("what -1", jars.disc(disc, -1), BAD_VALUE);
                Check.due("what 5", jars.disc(disc, 5), BAD_VALUE);
            }
        }
    }

    /** "1 sectors with a charge above 0, 2 those with one below 0": 0 is neither, but greatest or least. */
    private static void discWithOneCharge() {
        for (int place = 0; place < 12; place++) {
            for (int charge = -1; charge <= 1; charge++) {
                InfluenceJars jars = new InfluenceJars();
                jars.touch(1, place, charge);
                int[] due = {charge, charge > 0 ? 1 : 0, charge < 0 ? 1 : 0, Math.max(charge, 0), Math.min(charge, 0)};
                for (int what = 0; what < 5; what++) {
                    Check.due("one charge, " + what, jars.disc(1, what), due[what]);
                }
            }
        }
    }

    /** "what it took from combs so far, all charges with their signs, together", "what leaked, likewise". */
    private static void jarThatTakesAndLosesBothSigns() {
        InfluenceJars jars = Machines.with(0, 10, 200);
        jars.touch(0, 5, 60);
        jars.touch(1, 7, -20);
        jars.turn(1);
        // 40 * 10 / 200 is 2.
        Check.due("took 60 less 20", jars.jar(1, 1), 40);
        Check.due("38 is left", jars.jar(1, 0), 38);
        Check.due("2 leaked", jars.jar(1, 2), 2);
        jars.touch(0, 5, -99);
        jars.turn(1);
        // -61 * 10 / 200 is -3.
        Check.due("took 99 less", jars.jar(1, 1), -59);
        Check.due("-58 is left", jars.jar(1, 0), -58);
        Check.due("2 less 3 leaked", jars.jar(1, 2), -1);
        jars.discharge();
        Check.due("taken still", jars.jar(1, 1), -59);
        Check.due("leaked still", jars.jar(1, 2), -1);
        Check.due("no charge", jars.jar(1, 0), 0);
        Check.due("the other jar", jars.jar(0, 1), 0);
    }

    private static void jarOutOfRange() {
        InfluenceJars jars = new InfluenceJars();
        Check.due("jar(-1, 0)", jars.jar(-1, 0), NO_SUCH);
        Check.due("jar(2, 0)", jars.jar(2, 0), NO_SUCH);
        Check.due("jar(2, 3)", jars.jar(2, 3), NO_SUCH);
        Check.due("jar(1, -1)", jars.jar(1, -1), BAD_VALUE);
        Check.due("jar(1, 3)", jars.jar(1, 3), BAD_VALUE);
        Check.due("jar(1, 2)", jars.jar(1, 2), 0);
    }

    /** "the log, which has the latest 8", "NONE if the log has not so many". */
    private static void sparkOfAShortLog() {
        InfluenceJars jars = Machines.calm(1);
        for (int sparks = 0; sparks <= 18; sparks++) {
            Check.due("sparks", jars.count(6), sparks);
            int logged = Math.min(sparks, 8);
            for (int what = 0; what < 3; what++) {
                Check.due("one too many", jars.spark(logged, what), NONE);
                Check.due("far too many", jars.spark(MOST, what), NONE);
            }
            for (int ago = 0; ago < logged; ago++) {
                Check.due("turn", jars.spark(ago, 0), sparks - ago);
                Check.due("jar 0 ahead of it", jars.spark(ago, 1), 0);
                Check.due("jar 1 ahead of it", jars.spark(ago, 2), -(10 + sparks - ago));
            }
            jars.touch(0, 5, -(10 + sparks + 1));
            Check.due("one more", jars.turn(1), 1);
            jars.discharge();
        }
    }

    /** "the turns behind that in which it jumped (1 for the first turn)". */
    private static void sparkInTheFirstTurn() {
        InfluenceJars jars = Machines.calm(1);
        Check.due("no spark yet", jars.spark(0, 0), NONE);
        jars.touch(0, 11, -13);
        jars.turn(1);
        Check.due("turn 1", jars.spark(0, 0), 1);
        Check.due("jar 0", jars.spark(0, 1), -13);
        Check.due("jar 1", jars.spark(0, 2), 0);
        Check.due("no other", jars.spark(1, 0), NONE);
    }

    /** More than 8 sparks in one call: the log has the latest ones, as if they had jumped one by one. */
    private static void sparksOfOneCallInTheLog() {
        InfluenceJars jars = new InfluenceJars();
        InfluenceJars slow = new InfluenceJars();
        Twins.busy(jars);
        Twins.busy(slow);
        int[][] log = new int[60][];
        int sparks = 0;
        for (int i = 0; i < 60; i++) {
            if (slow.turn(1) == 1) {
                log[sparks] = new int[] {slow.count(5), slow.spark(0, 1), slow.spark(0, 2)};
                sparks++;
            }
        }
        Check.holds("more sparks than the log has", sparks > 8);
        Check.due("turn(60)", jars.turn(60), sparks);
        for (int ago = 0; ago < 8; ago++) {
            for (int what = 0; what < 3; what++) {
                Check.due("spark(" + ago + ", " + what + ")", jars.spark(ago, what), log[sparks - 1 - ago][what]);
            }
        }
        Check.due("spark(8, 0)", jars.spark(8, 0), NONE);
    }

    private static void sparkOutOfRange() {
        InfluenceJars jars = Machines.calm(1);
        for (int sparks = 0; sparks < 2; sparks++) {
            for (int ago : new int[] {-1, LEAST}) {
                Check.due("spark(" + ago + ", 0)", jars.spark(ago, 0), BAD_VALUE);
            }
            for (int what : new int[] {-1, 3, LEAST, MOST}) {
                Check.due("spark(0, " + what + ")", jars.spark(0, what), BAD_VALUE);
                Check.due("spark(9, " + what + ")", jars.spark(9, what), BAD_VALUE);
            }
            jars.touch(0, 11, 50);
            jars.turn(1);
        }
    }

    /** "13 the length of the pad, 14 how many changes can be undone": from none to full. */
    private static void countOfPadAndHistory() {
        InfluenceJars jars = new InfluenceJars();
        for (int i = 0; i <= 60; i++) {
            Check.due("length of the pad", jars.count(13), i);
            jars.put('x');
        }
        Check.due("length of a full pad", jars.count(13), 60);
        for (int i = 0; i <= 14; i++) {
            Check.due("changes", jars.count(14), Math.min(i, 6));
            jars.discharge();
        }
        for (int i = 6; i > 0; i--) {
            Check.due("changes", jars.count(14), i);
            jars.undo();
        }
        Check.due("no more changes", jars.count(14), 0);
    }

    private static void countOutOfRange() {
        InfluenceJars jars = new InfluenceJars();
        for (int what : new int[] {-1, 15, 16, LEAST, MOST}) {
            Check.due("count(" + what + ")", jars.count(what), BAD_VALUE);
        }
        Check.due("count(0)", jars.count(0), 12);
        Check.due("count(14)", jars.count(14), 0);
    }

    /** "with its signs": charges below 0 count below 0 in each account. */
    private static void countsOfChargeWithSigns() {
        InfluenceJars jars = Machines.with(0, 20, 200);
        jars.touch(0, 0, -50);
        jars.touch(0, 0, -60);
        jars.touch(0, 11, -99);
        Check.due("put on", jars.count(11), -159);
        Check.due("all", jars.count(9), -159);
        jars.turn(1);
        // -60 loses -12, the jar's -99 loses -9.
        Check.due("leaked", jars.count(10), -21);
        Check.due("all then", jars.count(9), -138);
        jars.discharge();
        Check.due("taken off by discharge()", jars.count(12), -90);
        jars.wipeDisc(0);
        Check.due("taken off by both", jars.count(12), -138);
        Check.due("nothing is left", jars.count(9), 0);
        jars.touch(1, 3, 25);
        jars.wipeDisc(1);
        Check.due("25 more", jars.count(12), -113);
        Check.due("put on in all", jars.count(11), -134);
        jars.touch(1, 3, 7);
        jars.touch(1, 3, 0);
        Check.due("less what they had", jars.count(11), -134);
        jars.touch(0, 5, 40);
        jars.turn(1);
        // 40 loses 4, and discharge() takes off the rest.
        jars.discharge();
        Check.due("36 more", jars.count(12), -77);
    }

    /** "1 to 400": also if the jars differ enough already, a spark needs a turn. */
    private static void untilSparkAtOnce() {
        InfluenceJars jars = Machines.calm(200);
        jars.touch(0, 11, 90);
        jars.turn(1);
        Check.due("90 is far too little", jars.untilSpark(), NONE);
        jars.set(InfluenceJars.GAP, 9);
        Check.due("90 is enough for the next turn", jars.untilSpark(), 1);
        Check.due("no spark has jumped", jars.count(6), 0);
        jars.set(InfluenceJars.DAMP, 3);
        Check.due("but 1 of it leaks", jars.untilSpark(), NONE);
    }

    /** "1 to 400; NONE if none does in these": a first spark in the turn 431, and in 201. */
    private static void untilSparkAtTheEnd() {
        InfluenceJars jars = Machines.with(17, 0, 43);
        jars.touch(0, 9, 3);
        jars.turn(29);
        Check.due("402 turns", jars.untilSpark(), NONE);
        jars.turn(1);
        Check.due("401 turns", jars.untilSpark(), NONE);
        jars.turn(1);
        Check.due("400 turns", jars.untilSpark(), 400);
        jars.turn(1);
        Check.due("399 turns", jars.untilSpark(), 399);
        jars = Machines.with(16, 3, 51);
        jars.touch(1, 3, -15);
        Check.due("beyond 200", jars.untilSpark(), 201);
    }

    private static void ifTurnedOnce() {
        InfluenceJars jars = Machines.calm(1);
        jars.touch(0, 11, 10);
        jars.touch(0, 10, 33);
        int[] due = {1, 0, 4, 6, 2, 43};
        for (int what = 0; what < 6; what++) {
            Check.due("ifTurned(1, " + what + ")", jars.ifTurned(1, what), due[what]);
            Check.due("ifTurned(0, " + what + ")", jars.ifTurned(0, what), BAD_VALUE);
            Check.due("ifTurned(401, " + what + ")", jars.ifTurned(401, what), BAD_VALUE);
        }
        Check.due("ifTurned(1, -1)", jars.ifTurned(1, -1), BAD_VALUE);
        Check.due("ifTurned(1, 6)", jars.ifTurned(1, 6), BAD_VALUE);
        Check.due("both out of range", jars.ifTurned(0, 6), BAD_VALUE);
    }

    /** "behind any of these turns": neither what is now, nor what is ahead of a spark. */
    private static void ifTurnedLeavesOutWhatIsNow() {
        InfluenceJars jars = Machines.calm(200);
        jars.touch(0, 11, 99);
        jars.turn(1);
        jars.set(InfluenceJars.DAMP, 40);
        // 99 loses 19, then 16: 80 and 64.
        Check.due("behind 1", jars.ifTurned(1, 4), 80);
        Check.due("behind 2", jars.ifTurned(2, 4), 80);
        Check.due("jar 0 then", jars.ifTurned(2, 2), 64);
        jars.set(InfluenceJars.DAMP, 0);
        jars.set(InfluenceJars.GAP, 9);
        // 99 and 0 become 49 less 10, and 60.
        Check.due("behind the spark", jars.ifTurned(1, 4), 21);
        Check.due("behind the spark and later", jars.ifTurned(400, 4), 21);
    }

    private static void ifTurnedOfNothing() {
        InfluenceJars jars = new InfluenceJars();
        for (int what = 0; what < 6; what++) {
            Check.due("ifTurned(1, " + what + ") of nothing", jars.ifTurned(1, what), 0);
            Check.due("ifTurned(400, " + what + ") of nothing", jars.ifTurned(400, what), 0);
        }
    }

    /** Sparks and reversals that are there already do not count. */
    private static void ifTurnedTellsItsOwnTurnsOnly() {
        InfluenceJars jars = Machines.calm(1);
        for (int i = 0; i < 4; i++) {
            jars.discharge();
            jars.touch(0, i % 2 == 0 ? 11 : 5, 9);
            jars.touch(1, i % 2 == 0 ? 1 : 7, 5);
            jars.turn(1);
        }
        Check.due("sparks so far", jars.count(6), 4);
        Check.due("reversals so far", jars.count(7), 3);
        jars.discharge();
        jars.touch(0, 11, 5);
        Check.due("no more sparks", jars.ifTurned(5, 0), 0);
        Check.due("no more reversals", jars.ifTurned(5, 1), 0);
        jars.touch(0, 5, 50);
        Check.due("one spark", jars.ifTurned(5, 0), 1);
        // 5 and 50 become 31 and 24, so that the sign stays.
        Check.due("the spark swings back to the same sign", jars.ifTurned(5, 1), 0);
        jars.touch(0, 5, 9);
        Check.due("no spark of 5 and 9", jars.ifTurned(5, 0), 0);
        Check.due("one reversal", jars.ifTurned(5, 1), 1);
    }

    private static void ifTurnedAtTheEnd() {
        InfluenceJars jars = Machines.with(17, 0, 43);
        jars.touch(0, 9, 3);
        jars.turn(30);
        Check.due("the spark is 401 turns away", jars.ifTurned(400, 0), 0);
        int charge = jars.ifTurned(400, 5);
        jars.turn(1);
        Check.due("it is 400 turns away", jars.ifTurned(400, 0), 1);
        Check.due("and not nearer", jars.ifTurned(399, 0), 0);
        Check.due("no charge is lost", jars.ifTurned(400, 5), charge);
        int jar0 = jars.ifTurned(400, 2);
        int jar1 = jars.ifTurned(400, 3);
        for (int turns = 400; turns > 0; turns -= Math.min(turns, 99)) {
            jars.turn(Math.min(turns, 99));
        }
        Check.due("turns", jars.count(5), 431);
        Check.due("jar 0", jars.jar(0, 0), jar0);
        Check.due("jar 1", jars.jar(1, 0), jar1);
    }

    /** The latest sign behind a turn counts, though there is none now. */
    private static void ifTurnedTellsTheSignBefore() {
        for (int sign = -1; sign <= 1; sign += 2) {
            InfluenceJars jars = Machines.calm(200);
            jars.touch(0, 11, 5 * sign);
            Check.due("the first sign", jars.ifTurned(1, 1), 0);
            jars.turn(1);
            jars.discharge();
            jars.touch(0, 5, 5 * sign);
            Check.due("the other one", jars.ifTurned(1, 1), 1);
            Check.due("once", jars.ifTurned(400, 1), 1);
            jars.touch(0, 5, -5 * sign);
            Check.due("the same one", jars.ifTurned(400, 1), 0);
            jars.touch(0, 5, 0);
            Check.due("none", jars.ifTurned(400, 1), 0);
        }
    }

    /** "Returns the value, 1 to 200; NONE if there is none." */
    private static void widestGapAtEachEnd() {
        int[][] rows = {{0, NONE}, {1, NONE}, {9, NONE}, {10, 1}, {19, 1}, {20, 2}, {99, 9}};
        for (int[] row : rows) {
            for (int sign = -1; sign <= 1; sign += 2) {
                InfluenceJars jars = Machines.calm(200);
                jars.touch(0, 5, sign * row[0]);
                Check.due("a charge of " + sign * row[0], jars.widestGap(), row[1]);
            }
        }
        InfluenceJars jars = Machines.calm(200);
        jars.set(InfluenceJars.HOLD, 2000);
        for (int i = 0; i < 10; i++) {
            jars.touch(0, 11, -99);
            jars.touch(1, 1, -99);
            jars.turn(1);
        }
        int[][] more = {{19, 199}, {20, 200}, {29, 200}, {30, 200}, {99, 200}};
        for (int[] row : more) {
            jars.touch(0, 5, row[0]);
            Check.due("a difference of " + (1980 + row[0]), jars.widestGap(), row[1]);
        }
    }

    /** "in the next 200 turns": first sparks in the turns 201, and then 200. */
    private static void widestGapInTheLastTurn() {
        InfluenceJars jars = Machines.with(21, 0, 20);
        jars.touch(1, 3, -3);
        Check.due("201 turns to a difference of 200", jars.widestGap(), 19);
        jars.turn(1);
        Check.due("200 turns to it", jars.untilSpark(), 200);
        Check.due("the last one counts", jars.widestGap(), 20);
        jars = Machines.with(16, 3, 51);
        jars.touch(1, 3, -15);
        Check.due("201 turns to a difference of 510", jars.widestGap(), 50);
        jars.turn(1);
        Check.due("200 turns to that", jars.widestGap(), 51);
    }

    /** The difference may be greatest in any turn; a spark with less GAP does not make it less. */
    private static void widestGapOfAnyTurn() {
        InfluenceJars jars = Machines.calm(1);
        jars.set(InfluenceJars.DAMP, 20);
        jars.touch(0, 11, 99);
        Check.due("90 in the first turn, less behind it", jars.widestGap(), 9);
        jars.set(InfluenceJars.DAMP, 0);
        jars.touch(0, 5, 80);
        jars.touch(0, 10, 0);
        Check.due("19 for ever", jars.widestGap(), 1);
        jars.touch(0, 9, 90);
        Check.due("109 from the third turn on", jars.widestGap(), 10);
        jars.touch(0, 3, 80);
        Check.due("29 then, as the jar 1 takes the same turn's", jars.widestGap(), 2);
    }

    /** "Returns the value, 0 to 60; NONE if there is none." */
    private static void mostDampAtEachEnd() {
        InfluenceJars jars = Machines.calm(7);
        jars.touch(0, 11, 99);
        // 99 * 60 / 200 is 29, so that 70 stay; at 99 * 59 / 200 it is 29, too.
        Check.due("70 with the damp 60", jars.mostDamp(), 60);
        jars.touch(0, 11, -99);
        Check.due("-70 with the damp 60", jars.mostDamp(), 60);
        jars.touch(0, 11, 98);
        Check.due("98 * 58 / 200 is 28", jars.mostDamp(), 59);
        jars.touch(0, 11, 70);
        Check.due("70 * 2 / 200 is 0", jars.mostDamp(), 2);
        jars.touch(0, 11, 69);
        Check.due("69 is too little", jars.mostDamp(), NONE);
        jars = Machines.calm(20);
        jars.touch(0, 11, 99);
        jars.touch(1, 1, 99);
        jars.turn(1);
        jars.touch(0, 11, 2);
        Check.due("200 * 1 / 200 is 1", jars.mostDamp(), 0);
        jars.touch(0, 11, 1);
        Check.due("199 is too little", jars.mostDamp(), NONE);
    }

    private static void mostDampInTheLastTurn() {
        InfluenceJars jars = Machines.with(16, 3, 51);
        jars.touch(1, 3, -15);
        Check.due("201 turns with the damp 3", jars.untilSpark(), 201);
        Check.due("which is too many", jars.mostDamp(), 2);
        jars.turn(1);
        Check.due("200 turns", jars.untilSpark(), 200);
        Check.due("the last one counts", jars.mostDamp(), 3);
    }

    /** The setting that is sought has no say now, and stays what it is. */
    private static void searchesLeaveSettingsAlone() {
        for (int gap = 1; gap <= 200; gap += 199) {
            for (int damp = 0; damp <= 60; damp += 60) {
                InfluenceJars jars = Machines.with(0, damp, gap);
                jars.touch(0, 11, 99);
                Check.due("widestGap()", jars.widestGap(), damp == 0 ? 9 : 7);
                Check.due("mostDamp()", jars.mostDamp(), gap == 1 ? 60 : NONE);
                Check.due("DAMP", jars.count(InfluenceJars.DAMP), damp);
                Check.due("GAP", jars.count(InfluenceJars.GAP), gap);
            }
        }
    }
}
