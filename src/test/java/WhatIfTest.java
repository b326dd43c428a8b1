/** Promises 13 to 16: what if. */
public final class WhatIfTest {
    private static final int NONE = InfluenceJars.NONE, BAD_VALUE = InfluenceJars.BAD_VALUE;

    public static void main(String[] args) {
        untilSpark();
        untilSparkLate();
        ifTurned();
        ifTurnedAndTurned();
        ifTurnedOutOfRange();
        widestGap();
        widestGapAtMost();
        mostDamp();
        searchesEndBehind200Turns();
        nothingChanges();
        Check.end();
    }

    private static void untilSpark() {
        InfluenceJars jars = Machines.calm(1);
        jars.touch(0, 9, 9);
        Check.due("9 is not enough", jars.untilSpark(), NONE);
        jars.touch(0, 9, 10);
        Check.due("from 9 to 0", jars.untilSpark(), 3);
        jars.turn(2);
        Check.due("behind two of them", jars.untilSpark(), 1);
        Check.due("it jumps", jars.turn(1), 1);
        Check.due("none is left", jars.untilSpark(), NONE);
        jars.touch(0, 5, 50);
        Check.due("another one", jars.untilSpark(), 1);
    }

    /** In this machine, the first spark jumps in the turn 431. */
    private static void untilSparkLate() {
        InfluenceJars jars = Machines.with(17, 0, 43);
        jars.touch(0, 9, 3);
        jars.turn(30);
        Check.due("401 turns are too many", jars.untilSpark(), NONE);
        jars.turn(1);
        Check.due("400 turns", jars.untilSpark(), 400);
        int sparks = 0;
        for (int i = 0; i < 399; i++) {
            sparks += jars.turn(1);
        }
        Check.due("no spark ahead of it", sparks, 0);
        Check.due("the spark", jars.turn(1), 1);
        Check.due("its turn", jars.spark(0, 0), 431);
    }

    private static void ifTurned() {
        InfluenceJars jars = Machines.calm(1);
        jars.touch(0, 11, 5);
        jars.touch(0, 9, 10);
        // Behind the turns 1 and 2 jar 0 has 5; in turn 3 15: 7 - 8 * 20 / 100 is 6, and 9.
        int[][] due = {{0, 0, 5, 0, 5, 15}, {0, 0, 5, 0, 5, 15}, {1, 1, 6, 9, 5, 15}, {1, 1, 6, 9, 5, 15}};
        for (int turns = 1; turns <= 4; turns++) {
            for (int what = 0; what < 6; what++) {
                String call = "ifTurned(" + turns + ", " + what + ")";
                Check.due(call, jars.ifTurned(turns, what), due[turns - 1][what]);
            }
        }
    }

    private static void ifTurnedAndTurned() {
        InfluenceJars jars = Machines.with(24, 1, 5);
        jars.set(InfluenceJars.SWING, 60);
        jars.touch(0, 1, 99);
        jars.touch(1, 4, -77);
        jars.turn(9);
        int[] due = new int[6];
        for (int what = 0; what < 6; what++) {
            due[what] = jars.ifTurned(60, what);
        }
        int sparks = jars.count(6);
        int reversals = jars.count(7);
        int greatest = 0;
        for (int i = 0; i < 60; i++) {
            jars.turn(1);
            greatest = Math.max(greatest, Math.abs(jars.jar(0, 0) - jars.jar(1, 0)));
        }
        Check.holds("sparks and reversals ahead and in these turns", sparks > 0 && due[0] > 0 && due[1] > 0);
        Check.due("sparks", jars.count(6) - sparks, due[0]);
        Check.due("reversals", jars.count(7) - reversals, due[1]);
        Check.due("jar 0", jars.jar(0, 0), due[2]);
        Check.due("jar 1", jars.jar(1, 0), due[3]);
        Check.due("greatest difference", greatest, due[4]);
        Check.due("charge of all", jars.count(9), due[5]);
    }

    private static void ifTurnedOutOfRange() {
        InfluenceJars jars = new InfluenceJars();
        for (int turns : new int[] {0, 401, -1, Integer.MIN_VALUE, Integer.MAX_VALUE}) {
            Check.due("ifTurned(" + turns + ", 0)", jars.ifTurned(turns, 0), BAD_VALUE);
        }
        for (int what : new int[] {-1, 6, Integer.MIN_VALUE, Integer.MAX_VALUE}) {
            Check.due("ifTurned(1, " + what + ")", jars.ifTurned(1, what), BAD_VALUE);
        }
        Check.due("ifTurned(1, 0)", jars.ifTurned(1, 0), 0);
        Check.due("ifTurned(400, 4)", jars.ifTurned(400, 4), 0);
        Check.due("ifTurned(400, 5)", jars.ifTurned(400, 5), 0);
    }

    private static void widestGap() {
        InfluenceJars jars = Machines.calm(1);
        jars.touch(0, 9, 9);
        Check.due("9", jars.widestGap(), NONE);
        jars.touch(0, 9, 10);
        Check.due("10", jars.widestGap(), 1);
        jars.touch(0, 9, -99);
        Check.due("99", jars.widestGap(), 9);
        jars.set(InfluenceJars.GAP, 200);
        Check.due("99, with another gap", jars.widestGap(), 9);
        jars.touch(0, 5, 99);
        Check.due("198", jars.widestGap(), 19);
        jars.set(InfluenceJars.GAP, 1);
        Check.due("198, though a spark would jump first", jars.widestGap(), 19);
    }

    private static void widestGapAtMost() {
        InfluenceJars jars = Machines.calm(1);
        jars.set(InfluenceJars.GAP, 200);
        jars.set(InfluenceJars.HOLD, 2000);
        for (int i = 0; i < 10; i++) {
            jars.touch(0, 11, 99);
            jars.touch(1, 1, 99);
            jars.turn(1);
        }
        Check.due("1980", jars.widestGap(), 198);
        jars.touch(0, 5, -19);
        Check.due("1999", jars.widestGap(), 199);
        jars.touch(0, 5, -20);
        Check.due("2000", jars.widestGap(), 200);
        jars.touch(0, 5, -99);
        Check.due("2079", jars.widestGap(), 200);
    }

    private static void mostDamp() {
        InfluenceJars jars = Machines.calm(1);
        jars.touch(0, 11, 99);
        int[][] due = {{7, 60}, {8, 40}, {9, 20}, {10, NONE}};
        for (int[] row : due) {
            jars.set(InfluenceJars.GAP, row[0]);
            Check.due("mostDamp() with the gap " + row[0], jars.mostDamp(), row[1]);
        }
        jars.set(InfluenceJars.GAP, 9);
        jars.set(InfluenceJars.DAMP, 60);
        Check.due("mostDamp() on a damp day", jars.mostDamp(), 20);
        jars.set(InfluenceJars.DAMP, 0);
        jars.set(InfluenceJars.GAP, 20);
        jars.touch(1, 1, 99);
        jars.turn(1);
        jars.touch(0, 11, 2);
        Check.due("200, of which any damp takes one", jars.mostDamp(), 0);
    }

    /** In this machine, the first spark jumps in the turn 201. */
    private static void searchesEndBehind200Turns() {
        InfluenceJars jars = Machines.with(21, 0, 20);
        jars.touch(1, 3, -3);
        Check.due("untilSpark()", jars.untilSpark(), 201);
        Check.due("widestGap()", jars.widestGap(), 19);
        Check.due("mostDamp()", jars.mostDamp(), NONE);
        jars.turn(1);
        Check.due("untilSpark() then", jars.untilSpark(), 200);
        Check.holds("widestGap() then", jars.widestGap() >= 20);
        Check.holds("mostDamp() then", jars.mostDamp() >= 0);
    }

    private static void nothingChanges() {
        InfluenceJars jars = Machines.with(20, 1, 3);
        jars.touch(0, 2, 70);
        jars.touch(1, 3, -60);
        jars.turn(50);
        jars.put(Check.number("x"));
        int[] before = Machines.state(jars);
        jars.untilSpark();
        jars.ifTurned(400, 4);
        jars.widestGap();
        jars.mostDamp();
        Machines.dueState("what-if", jars, before);
        Check.due("the pad", jars.count(13), 1);
        Check.due("the history", jars.count(14), 6);
    }
}
