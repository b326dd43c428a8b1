/**
 * CONVENTIONS: "A method that fails returns one of the error codes; it names its errors in the
 * order in which they are checked, and the first one that applies is returned. A call that
 * returns an error changes nothing. NONE is returned only if no error applies."
 */
public final class RefusedTest {
    private static final int NO_SUCH = InfluenceJars.NO_SUCH, BAD_VALUE = InfluenceJars.BAD_VALUE;
    private static final int BAD_TEXT = InfluenceJars.BAD_TEXT, TOO_MANY = InfluenceJars.TOO_MANY;
    private static final int NOT_POSSIBLE = InfluenceJars.NOT_POSSIBLE;
    private static final int LEAST = Integer.MIN_VALUE, MOST = Integer.MAX_VALUE;
    private static final int[] NO_DISC = {-1, 2, LEAST, MOST};
    private static final int[] NO_PLACE = {-1, 12, LEAST, MOST};

    public static void main(String[] args) {
        busyIsBusy();
        set();
        setOfHoldBelowAJar();
        touch();
        turn();
        turnBeyondTheMost();
        wipeDisc();
        runOfAFault();
        queries();
        whatIf();
        put();
        putTooLong();
        undo();
        slots();
        whatTellsChangesNothing();
        Check.end();
    }

    private static void refused(String name, Twins.Call call, int due) {
        Twins.dueNothingChanged(name, Twins::busy, call, due);
    }

    private static void busyIsBusy() {
        InfluenceJars jars = new InfluenceJars();
        Twins.busy(jars);
        Check.holds("more sparks than the log has", jars.count(6) > 8);
        Check.holds("reversals", jars.count(7) > 0);
        Check.holds("leaks", jars.count(10) != 0);
        Check.due("the pad has no fault", jars.fault(), InfluenceJars.NONE);
        Check.due("the history is full", jars.count(14), 6);
    }

    private static void set() {
        int[][] ranges = {{0, 32}, {0, 60}, {1, 200}, {0, 60}, {100, 2000}};
        for (int setting = 0; setting < 5; setting++) {
            int one = setting;
            for (int value : new int[] {ranges[one][0] - 1, ranges[one][1] + 1, LEAST, MOST}) {
                refused("set(" + one + ", " + value + ")", jars -> jars.set(one, value), BAD_VALUE);
            }
        }
        for (int setting : new int[] {-1, 5, LEAST, MOST}) {
            refused("set(" + setting + ", 20)", jars -> jars.set(setting, 20), BAD_VALUE);
            refused("set(" + setting + ", MAX)", jars -> jars.set(setting, MOST), BAD_VALUE);
        }
    }

    private static void fillJar(InfluenceJars jars, int jar, int sign) {
        jars.set(InfluenceJars.GAIN, 0);
        jars.set(InfluenceJars.DAMP, 0);
        jars.set(InfluenceJars.GAP, 200);
        jars.touch(0, (6 * jar + 11) % 12, sign * 99);
        jars.touch(1, 6 * jar + 1, sign * 51);
        jars.turn(1);
        Check.due("charge of the jar", jars.jar(jar, 0), sign * 150);
    }

    /** "BAD_VALUE if .. value is out of its range; NOT_POSSIBLE if a jar has more": in this order. */
    private static void setOfHoldBelowAJar() {
        for (int i = 0; i < 4; i++) {
            int jar = i / 2;
            int sign = i % 2 * 2 - 1;
            Twins.Past past = jars -> fillJar(jars, jar, sign);
            Twins.dueNothingChanged("HOLD 149", past, jars -> jars.set(4, 149), NOT_POSSIBLE);
            Twins.dueNothingChanged("HOLD 100", past, jars -> jars.set(4, 100), NOT_POSSIBLE);
            Twins.dueNothingChanged("HOLD 99", past, jars -> jars.set(4, 99), BAD_VALUE);
            InfluenceJars jars = new InfluenceJars();
            past.on(jars);
            Check.due("HOLD 150", jars.set(4, 150), 1000);
        }
    }

    /** "NO_SUCH if there is no such disc or place; BAD_VALUE if charge is out of range." */
    private static void touch() {
        for (int none : NO_DISC) {
            refused("touch of no disc", jars -> jars.touch(none, 3, 5), NO_SUCH);
            refused("touch of no disc, with no charge", jars -> jars.touch(none, 3, 100), NO_SUCH);
        }
        for (int none : NO_PLACE) {
            refused("touch of no place", jars -> jars.touch(1, none, 5), NO_SUCH);
            refused("touch of no place, with no charge", jars -> jars.touch(0, none, -100), NO_SUCH);
        }
        for (int none : new int[] {-100, 100, LEAST, MOST}) {
            refused("touch with no charge", jars -> jars.touch(1, 11, none), BAD_VALUE);
        }
    }

    private static void turn() {
        for (int none : new int[] {0, 100, -1, LEAST, MOST}) {
            refused("turn(" + none + ")", jars -> jars.turn(none), BAD_VALUE);
        }
    }

    /** "BAD_VALUE if turns is out of range; TOO_MANY if the turns would be above 99999." */
    private static void turnBeyondTheMost() {
        Twins.Past past = jars -> {
            Twins.busy(jars);
            for (int i = 0; i < 1009; i++) {
                jars.turn(99);
            }
            jars.turn(30);
            Check.due("turns", jars.count(5), 99990);
        };
        Twins.dueNothingChanged("turn(10) at 99990", past, jars -> jars.turn(10), TOO_MANY);
        Twins.dueNothingChanged("turn(100) at 99990", past, jars -> jars.turn(100), BAD_VALUE);
        InfluenceJars jars = new InfluenceJars();
        past.on(jars);
        Check.holds("turn(9) at 99990", jars.turn(9) >= 0);
        Check.due("turns then", jars.count(5), 99999);
        Check.due("turn(1) at 99999", jars.turn(1), TOO_MANY);
    }

    private static void wipeDisc() {
        for (int none : NO_DISC) {
            refused("wipeDisc(" + none + ")", jars -> jars.wipeDisc(none), NO_SUCH);
        }
    }

    /** "BAD_TEXT if the pad has a fault": the pad keeps what it has, and no deed of it is done. */
    private static void runOfAFault() {
        Twins.Past past = jars -> {
            Twins.busy(jars);
            Check.write(jars, ";f3=100");
        };
        Twins.dueNothingChanged("run() of a fault at the end", past, jars -> jars.run(), BAD_TEXT);
        past = jars -> {
            Twins.busy(jars);
            jars.put(';');
        };
        Twins.dueNothingChanged("run() of what ends too early", past, jars -> jars.run(), BAD_TEXT);
        past = jars -> {
            Twins.busy(jars);
            jars.wipe();
        };
        Twins.dueNothingChanged("run() of nothing", past, jars -> jars.run(), BAD_TEXT);
    }

    private static void queries() {
        for (int none : NO_DISC) {
            refused("sector of no disc", jars -> jars.sector(none, 0), NO_SUCH);
            refused("disc of no disc", jars -> jars.disc(none, 0), NO_SUCH);
            refused("disc of no disc, nothing", jars -> jars.disc(none, 5), NO_SUCH);
            refused("jar of no jar", jars -> jars.jar(none, 0), NO_SUCH);
            refused("jar of no jar, nothing", jars -> jars.jar(none, 3), NO_SUCH);
        }
        for (int none : NO_PLACE) {
            refused("sector of no place", jars -> jars.sector(1, none), NO_SUCH);
        }
        for (int none : new int[] {-1, LEAST, MOST}) {
            refused("disc, nothing", jars -> jars.disc(0, none), BAD_VALUE);
            refused("jar, nothing", jars -> jars.jar(0, none), BAD_VALUE);
            refused("spark, nothing", jars -> jars.spark(0, none), BAD_VALUE);
            refused("count, nothing", jars -> jars.count(none), BAD_VALUE);
        }
        refused("disc(0, 5)", jars -> jars.disc(0, 5), BAD_VALUE);
        refused("jar(1, 3)", jars -> jars.jar(1, 3), BAD_VALUE);
        refused("spark(0, 3)", jars -> jars.spark(0, 3), BAD_VALUE);
        refused("spark(-1, 0)", jars -> jars.spark(-1, 0), BAD_VALUE);
        refused("count(15)", jars -> jars.count(15), BAD_VALUE);
        refused("spark(8, 3), an error ahead of NONE", jars -> jars.spark(8, 3), BAD_VALUE);
        Twins.dueNothingChanged("spark(0, 3) without a spark", Twins::empty, jars -> jars.spark(0, 3), BAD_VALUE);
    }

    private static void whatIf() {
        for (int none : new int[] {0, 401, -1, LEAST, MOST}) {
            refused("ifTurned(" + none + ", 0)", jars -> jars.ifTurned(none, 0), BAD_VALUE);
        }
        for (int none : new int[] {-1, 6, LEAST, MOST}) {
            refused("ifTurned(1, " + none + ")", jars -> jars.ifTurned(1, none), BAD_VALUE);
        }
    }

    private static void put() {
        for (long none : new long[] {0, 32, 127, 255, 0x780078L, 0x7820L, -1, Long.MIN_VALUE, Long.MAX_VALUE}) {
            refused("put(" + none + ")", jars -> jars.put(none), BAD_VALUE);
        }
    }

    /** "BAD_VALUE if there is no character ..; TOO_MANY if the pad would be longer than 60." */
    private static void putTooLong() {
        Twins.Past past = jars -> {
            Twins.busy(jars);
            Check.write(jars, ";b0=1;b1=1;b2=1;b3=1;b4=1;b5=1;.10;x");
            Check.due("length", jars.count(13), 58);
        };
        Twins.dueNothingChanged("put of 3 behind 58", past, jars -> jars.put(Check.number(";.1")), TOO_MANY);
        Twins.dueNothingChanged("put of 8 behind 58", past, jars -> jars.put(Check.number(";f11=-99")), TOO_MANY);
        Twins.dueNothingChanged("put of 3, a bad one", past, jars -> jars.put(0x782078L), BAD_VALUE);
        Twins.dueNothingChanged("put of none", past, jars -> jars.put(0), BAD_VALUE);
        InfluenceJars jars = new InfluenceJars();
        past.on(jars);
        Check.due("put of 2 behind 58", jars.put(Check.number(";x")), 60);
    }

    private static void undo() {
        Twins.dueNothingChanged("undo() of nothing", Twins::empty, jars -> jars.undo(), NOT_POSSIBLE);
        Twins.Past past = jars -> {
            Twins.busy(jars);
            for (int i = 5; i >= 0; i--) {
                Check.due("undo()", jars.undo(), i);
            }
        };
        Twins.dueNothingChanged("undo() of no more", past, jars -> jars.undo(), NOT_POSSIBLE);
    }

    /** "BAD_VALUE if there is no such slot; NOT_POSSIBLE if nothing was saved in it." */
    private static void slots() {
        for (int none : new int[] {-1, 2, LEAST, MOST}) {
            refused("save(" + none + ")", jars -> jars.save(none), BAD_VALUE);
            refused("restore(" + none + ")", jars -> jars.restore(none), BAD_VALUE);
            Twins.dueNothingChanged("restore(" + none + ") of nothing", Twins::empty, jars -> jars.restore(none),
                    BAD_VALUE);
        }
        for (int slot = 0; slot < 2; slot++) {
            int one = slot;
            Twins.Past past = jars -> {
                jars.touch(0, 3, 4);
                jars.save(1 - one);
                jars.touch(0, 3, 5);
            };
            Twins.dueNothingChanged("restore(" + one + ")", past, jars -> jars.restore(one), NOT_POSSIBLE);
        }
    }

    /** "---- what there is; nothing changes", "---- what if; nothing changes". */
    private static void whatTellsChangesNothing() {
        InfluenceJars same = new InfluenceJars();
        Twins.busy(same);
        refused("sector(1, 11)", jars -> jars.sector(1, 11), same.sector(1, 11));
        refused("disc(1, 0)", jars -> jars.disc(1, 0), same.disc(1, 0));
        refused("jar(1, 2)", jars -> jars.jar(1, 2), same.jar(1, 2));
        refused("spark(7, 2)", jars -> jars.spark(7, 2), same.spark(7, 2));
        refused("spark(8, 0)", jars -> jars.spark(8, 0), InfluenceJars.NONE);
        refused("count(9)", jars -> jars.count(9), same.count(9));
        refused("untilSpark()", jars -> jars.untilSpark(), same.untilSpark());
        for (int what = 0; what < 6; what++) {
            int one = what;
            refused("ifTurned(400, " + one + ")", jars -> jars.ifTurned(400, one), same.ifTurned(400, one));
        }
        refused("widestGap()", jars -> jars.widestGap(), same.widestGap());
        refused("mostDamp()", jars -> jars.mostDamp(), same.mostDamp());
        refused("fault()", jars -> jars.fault(), InfluenceJars.NONE);
    }
}
