/** Promises 20 to 22: undo and saved states. */
public final class UndoSavingTest {
    private static final int NOT_POSSIBLE = InfluenceJars.NOT_POSSIBLE;
    private static final int BAD_VALUE = InfluenceJars.BAD_VALUE;

    public static void main(String[] args) {
        undoEachChange();
        undoAtMostSix();
        whatIsNoChange();
        undoLeavesPadAndSlots();
        undoBringsAllBack();
        undoBringsTheLatestSignBack();
        saveAndRestore();
        restoreIsAChange();
        restoreBringsTheLatestSignBack();
        slotsOutOfRange();
        Check.end();
    }

    private static void undoEachChange() {
        InfluenceJars jars = new InfluenceJars();
        Check.due("undo() of nothing", jars.undo(), NOT_POSSIBLE);
        jars.touch(0, 0, 7);
        jars.set(InfluenceJars.DAMP, 2);
        jars.turn(1);
        jars.discharge();
        jars.wipeDisc(0);
        Check.write(jars, "f4=9");
        jars.run();
        Check.due("six changes", jars.count(14), 6);
        Check.due("undo() of run", jars.undo(), 5);
        Check.due("sector", jars.sector(0, 4), 0);
        Check.due("undo() of wipeDisc", jars.undo(), 4);
        Check.due("sector", jars.sector(0, 1), 7);
        Check.due("taken off", jars.count(12), 0);
        Check.due("undo() of discharge", jars.undo(), 3);
        Check.due("turns", jars.count(5), 1);
        Check.due("undo() of turn", jars.undo(), 2);
        Check.due("turns", jars.count(5), 0);
        Check.due("sector", jars.sector(0, 0), 7);
        Check.due("undo() of set", jars.undo(), 1);
        Check.due("setting", jars.count(1), 2);
        Check.due("undo() of touch", jars.undo(), 0);
        Check.due("put on", jars.count(11), 0);
        Check.due("undo() of no more", jars.undo(), NOT_POSSIBLE);
    }

    private static void undoAtMostSix() {
        InfluenceJars jars = new InfluenceJars();
        for (int i = 1; i <= 20; i++) {
            jars.touch(0, 0, i);
            Check.due("history", jars.count(14), Math.min(i, 6));
        }
        for (int i = 5; i >= 0; i--) {
            Check.due("undo()", jars.undo(), i);
            Check.due("sector", jars.sector(0, 0), 14 + i);
        }
        Check.due("undo() of no more", jars.undo(), NOT_POSSIBLE);
        Check.due("sector", jars.sector(0, 0), 14);
        jars.touch(0, 0, 50);
        jars.touch(0, 0, 60);
        Check.due("undo() behind undo()", jars.undo(), 1);
        Check.due("sector", jars.sector(0, 0), 50);
    }

    private static void whatIsNoChange() {
        InfluenceJars jars = new InfluenceJars();
        jars.set(9, 1);
        jars.set(0, 99);
        jars.touch(5, 0, 0);
        jars.touch(0, 0, 100);
        jars.turn(0);
        jars.wipeDisc(2);
        jars.run();
        jars.restore(0);
        jars.restore(2);
        jars.save(0);
        jars.put('x');
        jars.fault();
        jars.wipe();
        jars.undo();
        jars.untilSpark();
        jars.ifTurned(3, 0);
        jars.widestGap();
        jars.mostDamp();
        Check.due("no changes", jars.count(14), 0);
        jars.discharge();
        jars.set(0, 12);
        jars.wipeDisc(1);
        jars.touch(0, 0, 0);
        Check.due("changes in which nothing is different", jars.count(14), 4);
    }

    private static void undoLeavesPadAndSlots() {
        InfluenceJars jars = new InfluenceJars();
        Check.write(jars, "f1=2");
        jars.run();
        Check.write(jars, "x;x");
        jars.save(1);
        jars.undo();
        Check.due("the pad stays", jars.count(13), 3);
        Check.due("sector", jars.sector(0, 1), 0);
        Check.due("the slot stays", jars.restore(1), 0);
        Check.due("sector of the slot", jars.sector(0, 1), 2);
        Check.due("the pad stays again", jars.count(13), 3);
    }

    private static void undoBringsAllBack() {
        InfluenceJars jars = Machines.with(17, 5, 8);
        jars.set(InfluenceJars.SWING, 60);
        jars.touch(0, 1, 99);
        jars.touch(1, 4, -77);
        jars.turn(80);
        int[] before = Machines.state(jars);
        Check.holds("nine sparks or more", jars.count(6) > 8);
        jars.turn(37);
        int[] other = Machines.state(jars);
        Check.holds("it leaked in these turns", other[10] != before[10]);
        jars.undo();
        Machines.dueState("undo()", jars, before);
        jars.turn(37);
        Machines.dueState("the same turns again", jars, other);
        jars.undo();
        jars.save(0);
        jars.turn(5);
        jars.discharge();
        jars.set(InfluenceJars.HOLD, 1999);
        jars.restore(0);
        Machines.dueState("restore(0)", jars, before);
    }

    private static void undoBringsTheLatestSignBack() {
        InfluenceJars jars = Machines.calm(1);
        jars.touch(0, 11, 5);
        jars.turn(1);
        jars.discharge();
        jars.touch(0, 5, 5);
        jars.turn(1);
        Check.due("reversed", jars.count(7), 1);
        jars.undo();
        Check.due("not yet reversed", jars.count(7), 0);
        jars.turn(1);
        Check.due("reversed again", jars.count(7), 1);
    }

    private static void saveAndRestore() {
        InfluenceJars jars = Machines.calm(1);
        jars.touch(0, 0, 30);
        Check.due("save(0)", jars.save(0), 0);
        jars.turn(4);
        Check.due("save(1)", jars.save(1), 4);
        jars.turn(1);
        jars.put('x');
        Check.due("restore(0)", jars.restore(0), 0);
        Check.due("sector", jars.sector(0, 0), 30);
        Check.due("restore(1)", jars.restore(1), 4);
        Check.due("sector, halved at 2", jars.sector(0, 4), 15);
        Check.due("the pad is not saved", jars.count(13), 1);
        jars.touch(0, 0, 11);
        Check.due("restore(0) again", jars.restore(0), 0);
        Check.due("the slot keeps it", jars.sector(0, 0), 30);
        jars.touch(0, 0, 12);
        Check.due("save(0) over it", jars.save(0), 0);
        jars.touch(0, 0, 13);
        jars.restore(0);
        Check.due("overwritten", jars.sector(0, 0), 12);
    }

    private static void restoreIsAChange() {
        InfluenceJars jars = new InfluenceJars();
        jars.save(1);
        jars.turn(3);
        Check.due("restore(1)", jars.restore(1), 0);
        Check.due("history", jars.count(14), 2);
        Check.due("undo()", jars.undo(), 1);
        Check.due("turns", jars.count(5), 3);
        Check.due("restore(0)", jars.restore(0), NOT_POSSIBLE);
        Check.due("history then", jars.count(14), 1);
    }

    private static void restoreBringsTheLatestSignBack() {
        InfluenceJars jars = Machines.calm(1);
        jars.touch(0, 11, 5);
        jars.turn(1);
        jars.discharge();
        jars.touch(0, 5, 5);
        jars.save(0);
        jars.turn(1);
        Check.due("reversed", jars.count(7), 1);
        jars.restore(0);
        Check.due("not yet reversed", jars.count(7), 0);
        jars.turn(1);
        Check.due("reversed again", jars.count(7), 1);
    }

    private static void slotsOutOfRange() {
        InfluenceJars jars = new InfluenceJars();
        for (int slot : new int[] {-1, 2, Integer.MIN_VALUE, Integer.MAX_VALUE}) {
            Check.due("save(" + slot + ")", jars.save(slot), BAD_VALUE);
            Check.due("restore(" + slot + ")", jars.restore(slot), BAD_VALUE);
        }
        Check.due("save(1)", jars.save(1), 0);
        Check.due("restore(0)", jars.restore(0), NOT_POSSIBLE);
    }
}
