/** The calls that README.md shows, with the answers that it tells. */
public final class ReadmeTest {
    private static final InfluenceJars jars = new InfluenceJars();

    public static void main(String[] args) {
        firstCalls();
        aTextOnThePad();
        undoAndSlots();
        Check.end();
    }

    private static void firstCalls() {
        Check.due("touch(0, 1, 50)", jars.touch(0, 1, 50), 0);
        Check.due("turn(10)", jars.turn(10), 0);
        Check.due("jar(0, 0)", jars.jar(0, 0), 25);
        Check.due("ifTurned(5, 5)", jars.ifTurned(5, 5), 50);
        Check.due("set(DAMP, 0)", jars.set(InfluenceJars.DAMP, 0), 2);
    }

    private static void aTextOnThePad() {
        Check.due("put('x')", jars.put('x'), 1);
        Check.due("put(\";.\")", jars.put(';' << 8 | '.'), 3);
        Check.due("fault()", jars.fault(), 3);
        Check.due("put('5')", jars.put('5'), 4);
        Check.due("fault()", jars.fault(), InfluenceJars.NONE);
        Check.due("run()", jars.run(), 0);
        Check.due("the pad", jars.count(13), 0);
        Check.due("count(12)", jars.count(12), 50);
    }

    private static void undoAndSlots() {
        Check.due("save(0)", jars.save(0), 15);
        Check.due("undo()", jars.undo(), 3);
        Check.due("jar(0, 0)", jars.jar(0, 0), 25);
        Check.due("restore(0)", jars.restore(0), 15);
    }
}
