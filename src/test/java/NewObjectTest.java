/** Promise 1 and the constants. */
public final class NewObjectTest {
    public static void main(String[] args) {
        constants();
        noCharge();
        firstCounts();
        nothingToGoBackTo();
        objectsAreApart();
        Check.end();
    }

    private static void constants() {
        Check.due("NO_SUCH", InfluenceJars.NO_SUCH, -1000001);
        Check.due("BAD_VALUE", InfluenceJars.BAD_VALUE, -1000002);
        Check.due("BAD_TEXT", InfluenceJars.BAD_TEXT, -1000003);
        Check.due("TOO_MANY", InfluenceJars.TOO_MANY, -1000004);
        Check.due("NOT_POSSIBLE", InfluenceJars.NOT_POSSIBLE, -1000005);
        Check.due("NONE", InfluenceJars.NONE, -1000006);
        Check.due("GAIN", InfluenceJars.GAIN, 0);
        Check.due("DAMP", InfluenceJars.DAMP, 1);
        Check.due("GAP", InfluenceJars.GAP, 2);
        Check.due("SWING", InfluenceJars.SWING, 3);
        Check.due("HOLD", InfluenceJars.HOLD, 4);
    }

    private static void noCharge() {
        InfluenceJars jars = new InfluenceJars();
        for (int disc = 0; disc < 2; disc++) {
            for (int place = 0; place < 12; place++) {
                Check.due("sector of a new object", jars.sector(disc, place), 0);
            }
            for (int what = 0; what < 5; what++) {
                Check.due("disc of a new object", jars.disc(disc, what), 0);
            }
            for (int what = 0; what < 3; what++) {
                Check.due("jar of a new object", jars.jar(disc, what), 0);
            }
        }
    }

    private static void firstCounts() {
        InfluenceJars jars = new InfluenceJars();
        int[] due = {12, 2, 30, 20, 1000, 0, 0, 0, 0, 0, 0, 0, 0, 0, 0};
        for (int what = 0; what < due.length; what++) {
            Check.due("first count(" + what + ")", jars.count(what), due[what]);
        }
    }

    private static void nothingToGoBackTo() {
        InfluenceJars jars = new InfluenceJars();
        Check.due("first spark(0, 0)", jars.spark(0, 0), InfluenceJars.NONE);
        Check.due("first fault()", jars.fault(), 0);
        Check.due("first wipe()", jars.wipe(), 0);
        Check.due("first undo()", jars.undo(), InfluenceJars.NOT_POSSIBLE);
        Check.due("first restore(0)", jars.restore(0), InfluenceJars.NOT_POSSIBLE);
        Check.due("first restore(1)", jars.restore(1), InfluenceJars.NOT_POSSIBLE);
        Check.due("first untilSpark()", jars.untilSpark(), InfluenceJars.NONE);
        Check.due("first widestGap()", jars.widestGap(), InfluenceJars.NONE);
        Check.due("first mostDamp()", jars.mostDamp(), InfluenceJars.NONE);
    }

    private static void objectsAreApart() {
        InfluenceJars one = new InfluenceJars();
        InfluenceJars other = new InfluenceJars();
        one.touch(0, 3, 44);
        one.set(InfluenceJars.GAIN, 5);
        Check.write(one, "x");
        one.save(0);
        Check.due("sector of another object", other.sector(0, 3), 0);
        Check.due("setting of another object", other.count(0), 12);
        Check.due("pad of another object", other.count(13), 0);
        Check.due("history of another object", other.count(14), 0);
        Check.due("slot of another object", other.restore(0), InfluenceJars.NOT_POSSIBLE);
        Check.due("setting of a third object", new InfluenceJars().count(0), 12);
    }
}
