/** Promises 20 to 22: the edges that their sentences name, where no other test has them alone. */
public final class UndoBoundsTest {
    private static final int BAD_VALUE = InfluenceJars.BAD_VALUE, NOT_POSSIBLE = InfluenceJars.NOT_POSSIBLE;
    private static final int LEAST = Integer.MIN_VALUE, MOST = Integer.MAX_VALUE;

    /** Each method that is a change. */
    private static final Twins.Call[] CHANGES = {jars -> jars.set(InfluenceJars.GAIN, 30),
        jars -> jars.touch(1, 2, 77), jars -> jars.turn(30), jars -> jars.discharge(), jars -> jars.wipeDisc(0),
        jars -> jars.run(), jars -> jars.restore(0)};

    public static void main(String[] args) {
        undoOfNothing();
        undoOfEachChange();
        undoOfMoreThanSix();
        undoAndChangesInTurns();
        eachChangeDropsTheOldest();
        undoOfChangesInWhichNothingIsDifferent();
        errorsAreNotRecorded();
        undoLeavesThePad();
        undoLeavesTheSlots();
        undoOfUndoIsNone();
        saveInEachSlot();
        saveOverwrites();
        saveKeepsNoPadAndNoHistory();
        restoreOfNothing();
        restoreKeepsTheSlot();
        restoreBringsSettingsAndAccounts();
        restoreWithAFullHistory();
        slotsOutOfRange();
        Check.end();
    }

    private static void undoOfNothing() {
        InfluenceJars jars = new InfluenceJars();
        Check.due("undo() at first", jars.undo(), NOT_POSSIBLE);
        jars.touch(0, 0, 1);
        Check.due("undo() of the only one", jars.undo(), 0);
        Check.due("undo() of no more", jars.undo(), NOT_POSSIBLE);
        Check.due("and again", jars.undo(), NOT_POSSIBLE);
    }

    /** "everything except the pad, the slots and the history is as it was before it". */
    private static void undoOfEachChange() {
        for (int i = 0; i < CHANGES.length; i++) {
            InfluenceJars jars = new InfluenceJars();
            Twins.busy(jars);
            int[] before = Machines.state(jars);
            Check.holds("no error of the change " + i, CHANGES[i].on(jars) >= 0);
            boolean isDifferent = false;
            int[] behind = Machines.state(jars);
            for (int j = 0; j < before.length; j++) {
                isDifferent |= before[j] != behind[j];
            }
            Check.holds("the change " + i + " makes a difference", isDifferent);
            Check.due("undo()", jars.undo(), 5);
            Machines.dueState("undo() of the change " + i, jars, before);
        }
    }

    /** "A history of at most 6 states is kept .. the oldest one is dropped." */
    private static void undoOfMoreThanSix() {
        for (int changes = 1; changes <= 20; changes++) {
            InfluenceJars jars = new InfluenceJars();
            for (int i = 1; i <= changes; i++) {
                jars.touch(0, 7, i);
            }
            int kept = Math.min(changes, 6);
            Check.due("changes", jars.count(14), kept);
            for (int i = 1; i <= kept; i++) {
                Check.due("undo()", jars.undo(), kept - i);
                Check.due("the charge", jars.sector(0, 7), changes - i);
            }
            Check.due("undo() of no more", jars.undo(), NOT_POSSIBLE);
            Check.due("the charge stays", jars.sector(0, 7), changes - kept);
        }
    }

    /** Some changes, then some undone, again and again, beside a list of what is due. */
    private static void undoAndChangesInTurns() {
        InfluenceJars jars = new InfluenceJars();
        java.util.ArrayList<Integer> states = new java.util.ArrayList<>();
        int charge = 0;
        for (int round = 0; round < 60; round++) {
            for (int i = 0; i < 1 + round * 5 % 8; i++) {
                states.add(charge);
                if (states.size() > 6) {
                    states.remove(0);
                }
                charge = (round * 8 + i) % 99;
                jars.touch(1, 9, charge);
            }
            for (int i = 0; i < round * 3 % 9; i++) {
                if (states.isEmpty()) {
                    Check.due("undo() of nothing", jars.undo(), NOT_POSSIBLE);
                } else {
                    charge = states.remove(states.size() - 1);
                    Check.due("undo()", jars.undo(), states.size());
                }
                Check.due("charge", jars.sector(1, 9), charge);
                Check.due("history", jars.count(14), states.size());
            }
        }
    }

    private static void eachChangeDropsTheOldest() {
        for (Twins.Call change : CHANGES) {
            InfluenceJars jars = new InfluenceJars();
            jars.save(0);
            for (int i = 1; i <= 6; i++) {
                jars.touch(0, 7, i);
            }
            Check.write(jars, "f3=3");
            change.on(jars);
            Check.due("changes", jars.count(14), 6);
            for (int i = 5; i >= 0; i--) {
                Check.due("undo()", jars.undo(), i);
                Check.due("charge", jars.sector(0, 7), i + 1);
            }
            Check.due("the first touch cannot be undone", jars.undo(), NOT_POSSIBLE);
        }
    }

    /** "(also if nothing is different then)". */
    private static void undoOfChangesInWhichNothingIsDifferent() {
        InfluenceJars jars = new InfluenceJars();
        jars.save(1);
        Check.write(jars, "x");
        Twins.Call[] changes = {one -> one.set(4, 1000), one -> one.touch(0, 0, 0), one -> one.discharge(),
            one -> one.wipeDisc(1), one -> one.run(), one -> one.restore(1)};
        int[] before = Machines.state(jars);
        for (int i = 0; i < changes.length; i++) {
            changes[i].on(jars);
            Machines.dueState("nothing is different", jars, before);
            Check.due("changes", jars.count(14), i + 1);
        }
        for (int i = 5; i >= 0; i--) {
            Check.due("undo()", jars.undo(), i);
        }
        Machines.dueState("all undone", jars, before);
    }

    /** "each method that is a change, and returns no error". */
    private static void errorsAreNotRecorded() {
        InfluenceJars jars = new InfluenceJars();
        jars.touch(0, 3, 5);
        jars.touch(0, 3, 6);
        Check.write(jars, "y");
        Twins.Call[] errors = {one -> one.set(5, 1), one -> one.set(4, 99), one -> one.touch(2, 0, 0),
            one -> one.touch(0, 12, 0), one -> one.touch(0, 0, 100), one -> one.turn(0), one -> one.turn(100),
            one -> one.wipeDisc(2), one -> one.run(), one -> one.restore(0), one -> one.restore(2)};
        for (int i = 0; i < errors.length; i++) {
            Check.holds("the error " + i, errors[i].on(jars) < -1000000);
            Check.due("two changes behind the error " + i, jars.count(14), 2);
        }
        Check.due("undo()", jars.undo(), 1);
        Check.due("undo() of the latest touch", jars.sector(0, 3), 5);
    }

    /** What run() took from the pad does not come back; what was put since stays. */
    private static void undoLeavesThePad() {
        InfluenceJars jars = new InfluenceJars();
        Check.write(jars, "f3=5");
        jars.run();
        Check.due("undo() of run()", jars.undo(), 0);
        Check.due("the pad stays empty", jars.count(13), 0);
        jars.touch(0, 0, 3);
        Check.write(jars, "b3=5");
        Check.due("undo() of touch()", jars.undo(), 0);
        Check.due("the pad stays", jars.count(13), 4);
        Check.due("run() of it", jars.run(), 0);
        Check.due("the charge", jars.sector(1, 3), 5);
        jars.touch(0, 0, 3);
        Check.write(jars, "x");
        jars.wipe();
        jars.undo();
        Check.due("what was wiped stays away", jars.count(13), 0);
    }

    private static void undoLeavesTheSlots() {
        InfluenceJars jars = new InfluenceJars();
        jars.touch(0, 3, 8);
        jars.save(0);
        jars.undo();
        Check.due("restore(0) of what was undone", jars.restore(0), 0);
        Check.due("the charge", jars.sector(0, 3), 8);
        Check.due("undo() of restore(0)", jars.undo(), 0);
        Check.due("the charge", jars.sector(0, 3), 0);
        jars.save(0);
        jars.touch(0, 3, 1);
        jars.undo();
        Check.due("undo() does not undo save(0)", jars.restore(0), 0);
        Check.due("the charge", jars.sector(0, 3), 0);
        Check.due("the other slot is empty still", jars.restore(1), NOT_POSSIBLE);
    }

    /** undo() is no change: it takes from the history, and adds nothing. */
    private static void undoOfUndoIsNone() {
        InfluenceJars jars = new InfluenceJars();
        jars.touch(0, 3, 1);
        jars.touch(0, 3, 2);
        jars.touch(0, 3, 3);
        Check.due("undo()", jars.undo(), 2);
        Check.due("undo()", jars.undo(), 1);
        Check.due("charge", jars.sector(0, 3), 1);
        jars.touch(0, 3, 9);
        Check.due("two changes", jars.count(14), 2);
        Check.due("undo()", jars.undo(), 1);
        Check.due("charge", jars.sector(0, 3), 1);
        Check.due("undo()", jars.undo(), 0);
        Check.due("charge", jars.sector(0, 3), 0);
    }

    /** "slot: 0 or 1. Returns the turns". */
    private static void saveInEachSlot() {
        InfluenceJars jars = Machines.calm(200);
        Check.due("save(0)", jars.save(0), 0);
        jars.turn(7);
        jars.touch(1, 1, 5);
        Check.due("save(1)", jars.save(1), 7);
        Check.due("save() is no change", jars.count(14), 5);
        jars.turn(99);
        Check.due("restore(0)", jars.restore(0), 0);
        Check.due("nothing there", jars.sector(1, 1), 0);
        Check.due("restore(1)", jars.restore(1), 7);
        Check.due("the charge", jars.sector(1, 1), 5);
        Check.due("restore(0) again", jars.restore(0), 0);
    }

    /** "overwrites what was saved there": in that slot alone. */
    private static void saveOverwrites() {
        for (int slot = 0; slot < 2; slot++) {
            InfluenceJars jars = new InfluenceJars();
            jars.touch(0, 3, 11);
            jars.save(0);
            jars.save(1);
            jars.touch(0, 3, 22);
            jars.save(slot);
            jars.touch(0, 3, 33);
            jars.restore(slot);
            Check.due("overwritten", jars.sector(0, 3), 22);
            jars.restore(1 - slot);
            Check.due("the other one", jars.sector(0, 3), 11);
        }
    }

    private static void saveKeepsNoPadAndNoHistory() {
        InfluenceJars jars = new InfluenceJars();
        jars.touch(0, 3, 1);
        Check.write(jars, "x;x");
        jars.save(0);
        jars.wipe();
        jars.put('x');
        jars.undo();
        Check.due("no history", jars.count(14), 0);
        jars.restore(0);
        Check.due("the pad of now", jars.count(13), 1);
        Check.due("the history of now, and one more", jars.count(14), 1);
        Check.due("undo() of restore(0)", jars.undo(), 0);
        Check.due("the charge", jars.sector(0, 3), 0);
    }

    /** "NOT_POSSIBLE if nothing was saved in it": either slot, with or without the other. */
    private static void restoreOfNothing() {
        for (int slot = 0; slot < 2; slot++) {
            InfluenceJars jars = new InfluenceJars();
            Check.due("restore(" + slot + ")", jars.restore(slot), NOT_POSSIBLE);
            jars.save(1 - slot);
            Check.due("restore(" + slot + ") still", jars.restore(slot), NOT_POSSIBLE);
            Check.due("no changes", jars.count(14), 0);
            jars.save(slot);
            Check.due("restore(" + slot + ") then", jars.restore(slot), 0);
            Check.due("one change", jars.count(14), 1);
        }
    }

    /** "Restores what was saved last in a slot, which keeps it", whatever is done with it then. */
    private static void restoreKeepsTheSlot() {
        InfluenceJars jars = new InfluenceJars();
        Twins.busy(jars);
        jars.save(0);
        int[] saved = Machines.state(jars);
        for (Twins.Call change : CHANGES) {
            jars.restore(0);
            change.on(jars);
            Check.due("restore(0)", jars.restore(0), saved[5]);
            Machines.dueState("restore(0)", jars, saved);
        }
        jars.restore(0);
        jars.restore(0);
        Machines.dueState("restore(0) twice", jars, saved);
        jars.undo();
        jars.undo();
        jars.restore(0);
        Machines.dueState("restore(0) behind undo()", jars, saved);
    }

    /** "everything except the pad, the history and the slots". */
    private static void restoreBringsSettingsAndAccounts() {
        InfluenceJars jars = new InfluenceJars();
        int[] first = Machines.state(jars);
        jars.save(0);
        for (int setting = 0; setting < 5; setting++) {
            jars.set(setting, setting == 4 ? 100 : 9);
        }
        jars.touch(0, 11, 99);
        jars.turn(5);
        jars.discharge();
        jars.wipeDisc(0);
        Check.due("restore(0)", jars.restore(0), 0);
        Machines.dueState("restore(0) of a new machine", jars, first);
    }

    private static void restoreWithAFullHistory() {
        InfluenceJars jars = new InfluenceJars();
        jars.touch(0, 3, 50);
        jars.save(0);
        for (int i = 1; i <= 6; i++) {
            jars.touch(0, 3, i);
        }
        jars.restore(0);
        Check.due("six changes", jars.count(14), 6);
        Check.due("undo()", jars.undo(), 5);
        Check.due("before restore(0)", jars.sector(0, 3), 6);
        for (int i = 4; i >= 0; i--) {
            Check.due("undo()", jars.undo(), i);
        }
        Check.due("the oldest one is dropped", jars.undo(), NOT_POSSIBLE);
        Check.due("charge", jars.sector(0, 3), 1);
    }

    private static void slotsOutOfRange() {
        InfluenceJars jars = new InfluenceJars();
        for (int slot : new int[] {-1, 2, LEAST, MOST}) {
            Check.due("restore(" + slot + ") of nothing", jars.restore(slot), BAD_VALUE);
            Check.due("save(" + slot + ")", jars.save(slot), BAD_VALUE);
        }
        jars.save(0);
        jars.save(1);
        for (int slot : new int[] {-1, 2, LEAST, MOST}) {
            Check.due("restore(" + slot + ")", jars.restore(slot), BAD_VALUE);
        }
        Check.due("no changes", jars.count(14), 0);
    }
}
