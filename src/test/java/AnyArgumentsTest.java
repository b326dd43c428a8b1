/**
 * Rule 7 of LANGUAGE.md: "No call may ever throw or fail to end, for any arguments in any state";
 * and each answer to arguments far out of range is an error or NONE, or lies in the documented range.
 */
public final class AnyArgumentsTest {
    private static final int[] NUMBERS = {Integer.MIN_VALUE, Integer.MIN_VALUE + 1, -1000006, -1000001, -100000, -2001,
        -256, -100, -99, -13, -12, -3, -2, -1, 0, 1, 2, 3, 4, 5, 6, 7, 8, 9, 10, 11, 12, 13, 14, 15, 16, 24, 30, 60, 61,
        98, 99, 100, 200, 201, 400, 401, 1000, 2000, 2001, 99999, 100000, 1 << 30, Integer.MAX_VALUE - 1,
        Integer.MAX_VALUE};
    private static final String[] TEXTS = {"x", ".99", "f0=99", "b11=-99", ";", "=", "-", "0", "f3=-0;x;", "~~~~~~~~"};

    private final InfluenceJars jars = new InfluenceJars();
    private long seed;

    public static void main(String[] args) {
        eachPairOfArguments();
        for (int run = 0; run < 20; run++) {
            new AnyArgumentsTest(run).callManyTimes();
        }
        Check.end();
    }

    private AnyArgumentsTest(int run) {
        seed = 31L * run + 7;
    }

    private int next(int bound) {
        seed = seed * 6364136223846793005L + 1442695040888963407L;
        return (int) ((seed >>> 33) % bound);
    }

    private int any() {
        return NUMBERS[next(NUMBERS.length)];
    }

    private static void eachPairOfArguments() {
        InfluenceJars jars = new InfluenceJars();
        Twins.busy(jars);
        for (int a : NUMBERS) {
            for (int b : NUMBERS) {
                dueWithin("sector", jars.sector(a, b), -99, 99);
                dueWithin("disc", jars.disc(a, b), -1188, 1188);
                dueWithin("jar", jars.jar(a, b), -999999, 999999);
                dueWithin("spark", jars.spark(a, b), -2000, 99999);
                dueWithin("set", jars.set(a, b), 0, 2000);
                dueWithin("ifTurned", jars.ifTurned(a, b), -10000, 10000);
                dueWithin("put", jars.put((long) a << 32 | b), 1, 60);
                for (int c : NUMBERS) {
                    dueWithin("touch", jars.touch(a, b, c), -99, 99);
                }
            }
            dueWithin("count", jars.count(a), -999999, 999999);
            dueWithin("turn", jars.turn(a), 0, 99);
            dueWithin("wipeDisc", jars.wipeDisc(a), 0, 12);
            dueWithin("save", jars.save(a), 0, 99999);
            dueWithin("restore", jars.restore(a), 0, 99999);
        }
    }

    private static void dueWithin(String call, int got, int least, int most) {
        boolean isCode = got >= InfluenceJars.NONE && got <= InfluenceJars.NO_SUCH;
        Check.holds(call + " answers " + got, isCode || got >= least && got <= most);
    }

    private void callManyTimes() {
        for (int i = 0; i < 3000; i++) {
            callOne(next(21));
        }
        dueWithin("turns", jars.count(5), 0, 99999);
        dueWithin("the pad", jars.count(13), 0, 60);
        dueWithin("the history", jars.count(14), 0, 6);
        for (int jar = 0; jar < 2; jar++) {
            int hold = jars.count(InfluenceJars.HOLD);
            dueWithin("a jar", jars.jar(jar, 0), -hold, hold);
            dueWithin("a disc", jars.disc(jar, 3), -99, 99);
            dueWithin("a disc", jars.disc(jar, 4), -99, 99);
        }
    }

    private void callOne(int kind) {
        switch (kind) {
            case 0: dueWithin("set", jars.set(next(5), any()), 0, 2000); break;
            case 1: dueWithin("touch", jars.touch(next(2), next(12), any()), -99, 99); break;
            case 2: dueWithin("turn", jars.turn(any()), 0, 99); break;
            case 3: dueWithin("discharge", jars.discharge(), 0, 4000); break;
            case 4: dueWithin("wipeDisc", jars.wipeDisc(any()), 0, 12); break;
            case 5: dueWithin("run", jars.run(), 0, 1485); break;
            case 6: dueWithin("sector", jars.sector(any(), any()), -99, 99); break;
            case 7: dueWithin("disc", jars.disc(any(), any()), -1188, 1188); break;
            case 8: dueWithin("jar", jars.jar(any(), any()), -9999999, 9999999); break;
            case 9: dueWithin("spark", jars.spark(any(), any()), -2000, 99999); break;
            case 10: dueWithin("count", jars.count(any()), -9999999, 9999999); break;
            case 11: dueWithin("untilSpark", jars.untilSpark(), 1, 400); break;
            case 12: dueWithin("ifTurned", jars.ifTurned(any(), any()), -10000, 10000); break;
            case 13: dueWithin("widestGap", jars.widestGap(), 1, 200); break;
            case 14: dueWithin("mostDamp", jars.mostDamp(), 0, 60); break;
            case 15: dueWithin("put", jars.put(Check.number(TEXTS[next(TEXTS.length)])), 1, 60); break;
            case 16: dueWithin("wipe", jars.wipe(), 0, 60); break;
            case 17: dueWithin("fault", jars.fault(), 0, 60); break;
            case 18: dueWithin("undo", jars.undo(), 0, 5); break;
            case 19: dueWithin("save", jars.save(any()), 0, 99999); break;
            default: dueWithin("restore", jars.restore(any()), 0, 99999); break;
        }
    }
}
