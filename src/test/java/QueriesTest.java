/** Promises 8 to 12: what there is. */
public final class QueriesTest {
    private static final int NO_SUCH = InfluenceJars.NO_SUCH, BAD_VALUE = InfluenceJars.BAD_VALUE;
    private static final int LEAST = Integer.MIN_VALUE, MOST = Integer.MAX_VALUE;

    public static void main(String[] args) {
        sector();
        disc();
        discWithOneSign();
        jar();
        sparkLog();
        countsOfASmallRun();
        accounts();
        Check.end();
    }

    private static void sector() {
        InfluenceJars jars = new InfluenceJars();
        for (int disc = 0; disc < 2; disc++) {
            for (int place = 0; place < 12; place++) {
                jars.touch(disc, place, 20 * disc + place + 1);
            }
        }
        for (int disc = 0; disc < 2; disc++) {
            for (int place = 0; place < 12; place++) {
                Check.due("sector", jars.sector(disc, place), 20 * disc + place + 1);
            }
        }
        for (int none : new int[] {-1, 12, LEAST, MOST}) {
            Check.due("sector(0, " + none + ")", jars.sector(0, none), NO_SUCH);
            Check.due("sector(1, " + none + ")", jars.sector(1, none), NO_SUCH);
            Check.due("sector(" + none + ", 0)", jars.sector(none, 0), NO_SUCH);
        }
        Check.due("sector(2, 0)", jars.sector(2, 0), NO_SUCH);
    }

    private static void disc() {
        InfluenceJars jars = new InfluenceJars();
        jars.touch(1, 0, 5);
        jars.touch(1, 3, -7);
        jars.touch(1, 7, 98);
        jars.touch(1, 11, -90);
        jars.touch(1, 10, -1);
        int[] due = {5, 2, 3, 98, -90};
        for (int what = 0; what < 5; what++) {
            Check.due("disc(1, " + what + ")", jars.disc(1, what), due[what]);
            Check.due("disc(0, " + what + ")", jars.disc(0, what), 0);
        }
        for (int what : new int[] {-1, 5, LEAST, MOST}) {
            Check.due("disc(1, " + what + ")", jars.disc(1, what), BAD_VALUE);
            Check.due("disc(2, " + what + ")", jars.disc(2, what), NO_SUCH);
            Check.due("disc(-1, " + what + ")", jars.disc(-1, what), NO_SUCH);
        }
    }

    private static void discWithOneSign() {
        for (int sign = -1; sign <= 1; sign += 2) {
            InfluenceJars jars = new InfluenceJars();
            for (int place = 0; place < 12; place++) {
                jars.touch(0, place, sign * (88 + place));
            }
            Check.due("sum", jars.disc(0, 0), sign * 1122);
            Check.due("above 0", jars.disc(0, 1), sign > 0 ? 12 : 0);
            Check.due("below 0", jars.disc(0, 2), sign > 0 ? 0 : 12);
            Check.due("greatest", jars.disc(0, 3), sign > 0 ? 99 : -88);
            Check.due("least", jars.disc(0, 4), sign > 0 ? 88 : -99);
        }
    }

    private static void jar() {
        InfluenceJars jars = new InfluenceJars();
        jars.set(InfluenceJars.DAMP, 20);
        jars.touch(0, 11, 99);
        jars.touch(0, 5, -45);
        jars.turn(1);
        // 99 * 20 / 200 is 9, -45 * 20 / 200 is -4.
        int[][] due = {{90, 99, 9}, {-41, -45, -4}};
        for (int jar = 0; jar < 2; jar++) {
            for (int what = 0; what < 3; what++) {
                Check.due("jar(" + jar + ", " + what + ")", jars.jar(jar, what), due[jar][what]);
            }
        }
        jars.touch(0, 5, 50);
        jars.turn(1);
        // 90 loses 9 again; -41 and 50 are 9, which loses 0.
        Check.due("jar(0, 2) then", jars.jar(0, 2), 18);
        Check.due("jar(1, 0) then", jars.jar(1, 0), 9);
        Check.due("jar(1, 1) then", jars.jar(1, 1), 5);
        Check.due("jar(1, 2) then", jars.jar(1, 2), -4);
        for (int none : new int[] {-1, 3, LEAST, MOST}) {
            Check.due("jar(0, " + none + ")", jars.jar(0, none), BAD_VALUE);
            Check.due("jar(" + none + ", 0)", jars.jar(none, 0), NO_SUCH);
            Check.due("jar(2, " + none + ")", jars.jar(2, none), NO_SUCH);
        }
    }

    private static void sparkLog() {
        InfluenceJars jars = Machines.calm(1);
        for (int i = 0; i < 20; i++) {
            jars.touch(0, i % 2 == 0 ? 11 : 5, 10 + i);
            Check.due("a spark", jars.turn(1), 1);
            jars.discharge();
            int logged = Math.min(i + 1, 8);
            for (int ago = 0; ago < logged; ago++) {
                int then = i - ago;
                Check.due("turn of a spark", jars.spark(ago, 0), then + 1);
                Check.due("jar 0 ahead of it", jars.spark(ago, 1), then % 2 == 0 ? 10 + then : 0);
                Check.due("jar 1 ahead of it", jars.spark(ago, 2), then % 2 == 0 ? 0 : 10 + then);
            }
            Check.due("no more", jars.spark(logged, 0), InfluenceJars.NONE);
        }
        Check.due("spark(MAX, 0)", jars.spark(MOST, 0), InfluenceJars.NONE);
        Check.due("spark(MAX, 3)", jars.spark(MOST, 3), BAD_VALUE);
        for (int none : new int[] {-1, 3, LEAST, MOST}) {
            Check.due("spark(0, " + none + ")", jars.spark(0, none), BAD_VALUE);
        }
        Check.due("spark(-1, 0)", jars.spark(-1, 0), BAD_VALUE);
        Check.due("spark(MIN, 0)", jars.spark(LEAST, 0), BAD_VALUE);
    }

    private static void countsOfASmallRun() {
        InfluenceJars jars = Machines.with(3, 10, 4);
        jars.set(InfluenceJars.SWING, 50);
        jars.set(InfluenceJars.HOLD, 500);
        jars.touch(0, 11, 80);
        jars.touch(1, 8, 30);
        jars.put(Check.number("abc"));
        jars.turn(1);
        jars.wipeDisc(1);
        // The jar takes 80 and loses 4; 76: the middle is 38, jar 0 becomes 38 - 19 = 19, jar 1 57.
        // The back's 30 loses 3, and 27 are wiped.
        int[] due = {3, 10, 4, 50, 500, 1, 1, 0, -1, 76, 7, 110, 27, 3, 6};
        for (int what = 0; what < due.length; what++) {
            Check.due("count(" + what + ")", jars.count(what), due[what]);
        }
        for (int none : new int[] {-1, 15, LEAST, MOST}) {
            Check.due("count(" + none + ")", jars.count(none), BAD_VALUE);
        }
    }

    private static void accounts() {
        InfluenceJars jars = Machines.with(24, 2, 6);
        for (int i = 0; i < 40; i++) {
            jars.touch(i % 2, i * 5 % 12, 99 - 37 * i % 199);
            jars.turn(1 + i % 13);
            if (i % 7 == 6) {
                jars.discharge();
            }
            if (i % 11 == 10) {
                jars.wipeDisc(i % 2);
            }
            int left = jars.count(11) - jars.count(10) - jars.count(12);
            Check.due("put on less leaked less taken off", left, jars.count(9));
            int there = jars.disc(0, 0) + jars.disc(1, 0) + jars.jar(0, 0) + jars.jar(1, 0);
            Check.due("the charge of all", jars.count(9), there);
        }
        Check.holds("sparks jumped", jars.count(6) > 8);
    }
}
