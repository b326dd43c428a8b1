/** The edges that "A turn" and "Signs" name: places left over by 12, limits, full jars, roundings. */
public final class TurnBoundsTest {
    public static void main(String[] args) {
        eachPlaceTurnsOn();
        twentyFiveTurnsRoundTheDiscs();
        joinsRoundTowardZero();
        joinsStayFromLeastToMost();
        jarsTakeNoMoreThanTheyHold();
        holdAtItsEnds();
        sectorsLeakRoundedTowardZero();
        jarsLeakRoundedTowardZero();
        leaksComeAheadOfSparks();
        sparksFromTheGapOn();
        sparkOverTheWidestGap();
        sparksSwingRoundedTowardZero();
        signsByOneCharge();
        signsThatAreReversed();
        signBehindTheSparkCounts();
        Check.end();
    }

    /** "p and 1, left over by 12 .. p less 1 (from 0 to 11)": one charge at each place, one turn. */
    private static void eachPlaceTurnsOn() {
        for (int disc = 0; disc < 2; disc++) {
            for (int place = 0; place < 12; place++) {
                InfluenceJars jars = Machines.calm(200);
                jars.touch(disc, place, 10);
                jars.turn(1);
                int to = disc == 0 ? (place + 1) % 12 : (place + 11) % 12;
                boolean isTaken = to % 6 == 0;
                boolean isHalved = to % 6 == (disc == 0 ? 2 : 4);
                for (int p = 0; p < 12; p++) {
                    int due = isTaken ? 0 : isHalved && p % 6 == to % 6 ? 5 : !isHalved && p == to ? 10 : 0;
                    Check.due("from " + disc + " " + place + " to " + p, jars.sector(disc, p), due);
                    Check.due("the other disc", jars.sector(1 - disc, p), 0);
                }
                Check.due("jar 0", jars.jar(0, 0), to == 0 ? 10 : 0);
                Check.due("jar 1", jars.jar(1, 0), to == 6 ? 10 : 0);
            }
        }
    }

    /** Both jars are full, and opposite charges are the same: nothing happens but that all turns. */
    private static void twentyFiveTurnsRoundTheDiscs() {
        InfluenceJars jars = Machines.calm(200);
        jars.set(InfluenceJars.HOLD, 100);
        putInJar(jars, 0, 100);
        putInJar(jars, 1, 100);
        jars.turn(1);
        for (int place = 0; place < 12; place++) {
            jars.touch(0, place, 10 + place % 6);
            jars.touch(1, place, 30 + place % 6);
        }
        for (int turns = 1; turns <= 25; turns++) {
            Check.due("sparks", jars.turn(1), 0);
            for (int place = 0; place < 12; place++) {
                Check.due("front", jars.sector(0, place), 10 + (place + 60 - turns) % 6);
                Check.due("back", jars.sector(1, place), 30 + (place + turns) % 6);
            }
        }
        Check.due("jar 0 took no more", jars.jar(0, 1), 100);
        Check.due("jar 1 took no more", jars.jar(1, 1), 100);
    }

    /** Lays charges so that the jar's combs take them in the next turn. */
    private static void putInJar(InfluenceJars jars, int jar, int charge) {
        int front = Math.max(-99, Math.min(99, charge));
        jars.touch(0, (6 * jar + 11) % 12, front);
        jars.touch(1, 6 * jar + 1, charge - front);
    }

    /** a and b on the disc, c and d on the other one, GAIN, and what is due of a and b. */
    private static void dueJoined(int[] row) {
        for (int disc = 0; disc < 2; disc++) {
            InfluenceJars jars = Machines.calm(200);
            jars.set(InfluenceJars.GAIN, row[4]);
            int place = disc == 0 ? 2 : 4;
            int step = disc == 0 ? -1 : 1;
            jars.touch(disc, place + step, row[0]);
            jars.touch(disc, place + 6 + step, row[1]);
            jars.touch(1 - disc, place - step, row[2]);
            jars.touch(1 - disc, place + 6 - step, row[3]);
            jars.turn(1);
            String name = "disc " + disc + ", " + java.util.Arrays.toString(row);
            Check.due(name + " at p", jars.sector(disc, place), row[5]);
            Check.due(name + " at q", jars.sector(disc, place + 6), row[6]);
            Check.due(name + " c stays", jars.sector(1 - disc, place), row[2]);
            Check.due(name + " d stays", jars.sector(1 - disc, place + 6), row[3]);
        }
    }

    /** "The wanted charge at p is (a and b, together) / 2, and (d less c) * GAIN / 32 more." */
    private static void joinsRoundTowardZero() {
        int[][] rows = {
            {0, 0, 0, 0, 32, 0, 0}, {10, 10, 5, 5, 32, 10, 10},
            {3, 0, 0, 0, 0, 1, 2}, {0, 3, 0, 0, 0, 1, 2}, {-3, 0, 0, 0, 0, -1, -2}, {0, -3, 0, 0, 0, -1, -2},
            {1, -2, 0, 0, 0, 0, -1}, {-1, 2, 0, 0, 0, 0, 1}, {1, 0, 0, 0, 0, 0, 1}, {-1, 0, 0, 0, 0, 0, -1},
            {0, 0, 0, 1, 31, 0, 0}, {0, 0, 0, 1, 32, 1, -1}, {0, 0, 1, 0, 31, 0, 0}, {0, 0, 1, 0, 32, -1, 1},
            {0, 0, 0, 63, 1, 1, -1}, {0, 0, 63, 0, 1, -1, 1}, {0, 0, 64, 0, 1, -2, 2}, {0, 0, -99, 99, 0, 0, 0},
            // Each of both divisions is rounded, not their sum: 3 / 2 is 1, and -1 * 16 / 32 is 0.
            {3, 0, 1, 0, 16, 1, 2}, {-3, 0, 0, 1, 16, -1, -2}};
        for (int[] row : rows) {
            dueJoined(row);
        }
    }

    /** "but no more than that both stay from -99 to 99": each of the four ends. */
    private static void joinsStayFromLeastToMost() {
        int[][] rows = {
            {0, 0, 0, 99, 32, 99, -99}, {0, 0, 99, 0, 32, -99, 99},
            {0, 0, -1, 99, 32, 99, -99}, {0, 0, 99, -1, 32, -99, 99},
            {2, 0, 0, 99, 32, 99, -97}, {-2, 0, 99, 0, 32, -99, 97},
            {98, 99, -99, 99, 32, 99, 98}, {-98, -99, 99, -99, 32, -99, -98},
            {99, 99, -99, 99, 32, 99, 99}, {-99, -99, 99, -99, 32, -99, -99},
            {0, -98, -99, 99, 32, 1, -99}, {0, 98, 99, -99, 32, -1, 99},
            {5, -99, -99, 99, 32, 5, -99}, {5, 99, 99, -99, 32, 5, 99},
            {99, -99, 0, 0, 32, 0, 0}, {-99, 99, 0, 0, 32, 0, 0}};
        for (int[] row : rows) {
            dueJoined(row);
        }
    }

    /** "It moves from the sector to the jar, but no more of it than the jar can hold." */
    private static void jarsTakeNoMoreThanTheyHold() {
        // The jar's charge, what comes to its combs in front and back; what is due of the three.
        int[][] rows = {
            {0, 0, 0, 0, 0, 0}, {0, 99, 1, 100, 0, 0}, {0, 99, 2, 100, 0, 1}, {0, -99, -1, -100, 0, 0},
            {0, -99, -2, -100, 0, -1}, {99, 99, 0, 100, 98, 0}, {-99, -99, 0, -100, -98, 0},
            {100, 5, 0, 100, 5, 0}, {100, 0, 5, 100, 0, 5}, {-100, -5, 0, -100, -5, 0}, {-100, 0, -5, -100, 0, -5},
            {100, -5, 20, 100, 0, 15}, {100, 20, -5, 95, 20, 0}, {-100, 5, -20, -100, 0, -15},
            {-100, -20, 5, -95, -20, 0}, {-100, 99, 99, 98, 0, 0}, {100, -99, -99, -98, 0, 0}};
        for (int[] row : rows) {
            for (int jar = 0; jar < 2; jar++) {
                InfluenceJars jars = Machines.calm(200);
                jars.set(InfluenceJars.HOLD, 100);
                putInJar(jars, jar, row[0]);
                jars.turn(1);
                Check.due("the jar first", jars.jar(jar, 0), row[0]);
                jars.touch(0, (6 * jar + 11) % 12, row[1]);
                jars.touch(1, 6 * jar + 1, row[2]);
                jars.turn(1);
                String name = "jar " + jar + ", " + java.util.Arrays.toString(row);
                Check.due(name, jars.jar(jar, 0), row[3]);
                Check.due(name + " in front", jars.sector(0, 6 * jar), row[4]);
                Check.due(name + " at the back", jars.sector(1, 6 * jar), row[5]);
                Check.due(name + " took", jars.jar(jar, 1), row[3]);
                Check.due(name + " the other jar", jars.jar(1 - jar, 0), 0);
            }
        }
    }

    /** "each with a charge, -HOLD to HOLD": at the most HOLD, and behind a change of it. */
    private static void holdAtItsEnds() {
        for (int sign = -1; sign <= 1; sign += 2) {
            InfluenceJars jars = Machines.calm(200);
            jars.set(InfluenceJars.HOLD, 2000);
            for (int i = 0; i < 11; i++) {
                putInJar(jars, 0, sign * 198);
                putInJar(jars, 1, sign * 198);
                jars.turn(1);
            }
            Check.due("jar 0 has 2000", jars.jar(0, 0), sign * 2000);
            Check.due("jar 1 has 2000", jars.jar(1, 0), sign * 2000);
            Check.due("a full jar lets HOLD be no less", jars.set(InfluenceJars.HOLD, 1999), InfluenceJars.NOT_POSSIBLE);
            jars.discharge();
            jars.set(InfluenceJars.HOLD, 100);
            putInJar(jars, 1, sign * 150);
            jars.turn(1);
            Check.due("jar 1 has 100", jars.jar(1, 0), sign * 100);
            jars.set(InfluenceJars.HOLD, 101);
            putInJar(jars, 1, sign * 150);
            jars.turn(1);
            Check.due("jar 1 has 101", jars.jar(1, 0), sign * 101);
        }
    }

    /** "each sector loses its charge * DAMP / 100". */
    private static void sectorsLeakRoundedTowardZero() {
        int[][] rows = {{50, 2, 1}, {49, 2, 0}, {99, 0, 0}, {99, 1, 0}, {99, 60, 59}, {1, 60, 0}, {2, 60, 1},
            {0, 60, 0}, {3, 33, 0}, {3, 34, 1}};
        for (int[] row : rows) {
            for (int sign = -1; sign <= 1; sign += 2) {
                InfluenceJars jars = Machines.with(0, row[1], 200);
                jars.touch(0, 0, sign * row[0]);
                jars.touch(1, 0, sign * row[0]);
                jars.turn(1);
                String name = sign * row[0] + " with the damp " + row[1];
                Check.due(name + " in front", jars.sector(0, 1), sign * (row[0] - row[2]));
                Check.due(name + " at the back", jars.sector(1, 11), sign * (row[0] - row[2]));
                Check.due(name + " leaked", jars.count(10), 2 * sign * row[2]);
                Check.due(name + " left", jars.count(9), 2 * sign * (row[0] - row[2]));
            }
        }
    }

    /** "each jar its charge * DAMP / 200". */
    private static void jarsLeakRoundedTowardZero() {
        int[][] rows = {{100, 2, 1}, {99, 2, 0}, {198, 1, 0}, {198, 0, 0}, {198, 60, 59}, {3, 60, 0}, {4, 60, 1},
            {0, 60, 0}, {40, 5, 1}, {39, 5, 0}};
        for (int[] row : rows) {
            for (int i = 0; i < 4; i++) {
                int jar = i / 2;
                int sign = 2 * (i % 2) - 1;
                InfluenceJars jars = Machines.with(0, row[1], 200);
                putInJar(jars, jar, sign * row[0]);
                jars.turn(1);
                String name = "jar " + jar + ", " + sign * row[0] + " with the damp " + row[1];
                Check.due(name, jars.jar(jar, 0), sign * (row[0] - row[2]));
                Check.due(name + " took", jars.jar(jar, 1), sign * row[0]);
                Check.due(name + " leaked", jars.jar(jar, 2), sign * row[2]);
                Check.due(name + " leaked in all", jars.count(10), sign * row[2]);
            }
        }
    }

    private static void leaksComeAheadOfSparks() {
        InfluenceJars jars = Machines.with(0, 2, 10);
        putInJar(jars, 0, 100);
        Check.due("100 leaks to 99", jars.turn(1), 0);
        jars = Machines.with(0, 1, 10);
        putInJar(jars, 0, 100);
        Check.due("100 leaks nothing", jars.turn(1), 1);
    }

    /** "if the charges of the jars differ by 10 * GAP or more". */
    private static void sparksFromTheGapOn() {
        // GAP, the charges of both jars, and how many sparks are due.
        int[][] rows = {{1, 10, 0, 1}, {1, 9, 0, 0}, {1, 0, 10, 1}, {1, 0, 9, 0}, {1, -10, 0, 1}, {1, -9, 0, 0},
            {1, 5, -5, 1}, {1, 5, -4, 0}, {1, -5, 5, 1}, {1, -4, 5, 0}, {1, 90, 80, 1}, {1, 90, 81, 0}, {1, 50, 50, 0},
            {2, 20, 0, 1}, {2, 19, 0, 0}, {39, 198, -192, 1}, {39, 197, -192, 0}, {1, 0, 0, 0}};
        for (int[] row : rows) {
            InfluenceJars jars = Machines.calm(row[0]);
            putInJar(jars, 0, row[1]);
            putInJar(jars, 1, row[2]);
            Check.due("sparks of " + java.util.Arrays.toString(row), jars.turn(1), row[3]);
            Check.due("sparks so far", jars.count(6), row[3]);
            if (row[3] == 0) {
                Check.due("jar 0 stays", jars.jar(0, 0), row[1]);
                Check.due("jar 1 stays", jars.jar(1, 0), row[2]);
            }
        }
    }

    private static void sparkOverTheWidestGap() {
        for (int sign = -1; sign <= 1; sign += 2) {
            InfluenceJars jars = Machines.calm(200);
            for (int i = 0; i < 5; i++) {
                putInJar(jars, 0, sign * 198);
                putInJar(jars, 1, sign * -198);
                jars.turn(1);
            }
            putInJar(jars, 0, sign * 10);
            putInJar(jars, 1, sign * -9);
            Check.due("a difference of 1999", jars.turn(1), 0);
            putInJar(jars, 1, sign * -1);
            Check.due("a difference of 2000", jars.turn(1), 1);
            Check.due("jar 0 ahead of it", jars.spark(0, 1), sign * 1000);
            Check.due("jar 1 ahead of it", jars.spark(0, 2), sign * -1000);
            Check.due("jar 0 behind it", jars.jar(0, 0), sign * -200);
            Check.due("jar 1 behind it", jars.jar(1, 0), sign * 200);
        }
    }

    /** "m less (its charge less m) * SWING / 100, and the jar 1 has what is left of both". */
    private static void sparksSwingRoundedTowardZero() {
        // SWING, the charges of both jars ahead of the spark, and those that are due behind it.
        int[][] rows = {{0, 15, 0, 7, 8}, {0, 0, 15, 7, 8}, {0, -15, 0, -7, -8}, {0, 0, -15, -7, -8}, {0, 14, 0, 7, 7},
            {60, 10, 0, 2, 8}, {60, 0, 10, 8, 2}, {60, -10, 0, -2, -8}, {60, 0, -10, -8, -2}, {60, 5, -5, -3, 3},
            {20, 14, 0, 6, 8}, {20, 0, 14, 8, 6}, {20, -14, 0, -6, -8}, {20, 0, -14, -8, -6},
            {1, 15, 0, 7, 8}, {1, 198, 0, 99, 99}, {2, 100, 0, 49, 51}, {2, 98, 0, 49, 49}, {2, 0, 98, 49, 49},
            {20, 8, -3, 1, 4}, {20, -3, 8, 3, 2}};
        for (int[] row : rows) {
            InfluenceJars jars = Machines.calm(1);
            jars.set(InfluenceJars.SWING, row[0]);
            putInJar(jars, 0, row[1]);
            putInJar(jars, 1, row[2]);
            String name = java.util.Arrays.toString(row);
            Check.due(name, jars.turn(1), 1);
            Check.due(name + " jar 0 ahead of it", jars.spark(0, 1), row[1]);
            Check.due(name + " jar 1 ahead of it", jars.spark(0, 2), row[2]);
            Check.due(name + " jar 0", jars.jar(0, 0), row[3]);
            Check.due(name + " jar 1", jars.jar(1, 0), row[4]);
        }
    }

    /** "1 if the charge of the jar 0 is above that of the jar 1, -1 if below, 0 if both are the same". */
    private static void signsByOneCharge() {
        int[][] rows = {{0, 0, 0}, {1, 0, 1}, {0, 1, -1}, {-1, 0, -1}, {0, -1, 1}, {70, 70, 0}, {-70, -70, 0},
            {71, 70, 1}, {70, 71, -1}, {-71, -70, -1}, {-70, -71, 1}, {-198, 198, -1}};
        for (int[] row : rows) {
            InfluenceJars jars = Machines.calm(200);
            putInJar(jars, 0, row[0]);
            putInJar(jars, 1, row[1]);
            jars.turn(1);
            Check.due("sign of " + java.util.Arrays.toString(row), jars.count(8), row[2]);
            Check.due("the first sign is not reversed", jars.count(7), 0);
        }
    }

    /** "if it is 1 or -1 then, and the latest sign behind a turn that was not 0 was the other one". */
    private static void signsThatAreReversed() {
        // The sign that each turn ends with, one turn behind the other, and the reversals so far.
        int[][] signs = {{0, 0, 1, 1}, {0, -1, 0, -1, 1}, {1, -1, 1, -1}, {-1, 0, 0, 1, 0, 1}, {1, 0, 1, 0, -1, 0, -1}};
        int[][] due = {{0, 0, 0, 0}, {0, 0, 0, 0, 1}, {0, 1, 2, 3}, {0, 0, 0, 1, 1, 1}, {0, 0, 0, 0, 1, 1, 1}};
        for (int row = 0; row < signs.length; row++) {
            InfluenceJars jars = Machines.calm(200);
            for (int i = 0; i < signs[row].length; i++) {
                jars.discharge();
                Check.due("no sign behind discharge()", jars.count(8), 0);
                putInJar(jars, 0, 5 * signs[row][i]);
                jars.turn(1);
                Check.due("sign", jars.count(8), signs[row][i]);
                Check.due("row " + row + ", reversals behind turn " + (i + 1), jars.count(7), due[row][i]);
            }
        }
    }

    /** A spark may turn the sign within a turn: what was ahead of it does not count. */
    private static void signBehindTheSparkCounts() {
        InfluenceJars jars = Machines.calm(1);
        jars.set(InfluenceJars.SWING, 60);
        putInJar(jars, 0, 10);
        Check.due("a spark", jars.turn(1), 1);
        Check.due("10 and 0 become 2 and 8", jars.count(8), -1);
        Check.due("the first sign is not reversed", jars.count(7), 0);
        putInJar(jars, 0, 16);
        Check.due("18 and 8 spark", jars.turn(1), 1);
        // The middle is 13: jar 0 becomes 13 - 3.
        Check.due("10 and 16", jars.count(8), -1);
        Check.due("above it within the turn only", jars.count(7), 0);
        putInJar(jars, 0, 7);
        Check.due("no spark", jars.turn(1), 0);
        Check.due("17 and 16", jars.count(8), 1);
        Check.due("reversed", jars.count(7), 1);
    }
}
