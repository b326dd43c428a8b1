/**
 * Two machines with the same past: one of them is asked for something that must change nothing,
 * and then both must tell the same, and go on alike in all that can be done next.
 */
final class Twins {
    interface Past {
        void on(InfluenceJars jars);
    }

    interface Call {
        long on(InfluenceJars jars);
    }

    /** What is done next, to see what no query tells: pad, history, slots, the latest sign. */
    private static final Call[] NEXT = {jars -> jars.run(), jars -> undoAll(jars), jars -> jars.restore(0),
            jars -> jars.restore(1), jars -> jars.turn(40), jars -> jars.put('x'), jars -> jars.ifTurned(40, 1)};

    private Twins() {
    }

    /** Sparks, reversals, a pad with deeds, a full history, and something in each slot. */
    static void busy(InfluenceJars jars) {
        jars.set(InfluenceJars.GAIN, 24);
        jars.set(InfluenceJars.DAMP, 3);
        jars.set(InfluenceJars.GAP, 5);
        jars.set(InfluenceJars.SWING, 60);
        jars.touch(0, 1, 99);
        jars.touch(1, 4, -77);
        jars.save(0);
        jars.turn(60);
        jars.save(1);
        jars.discharge();
        jars.turn(9);
        Check.write(jars, "f3=-45;.9;x;b11=99;.20");
    }

    /** No sector of it ever has a charge, and there is no pad, history or slot. */
    static void empty(InfluenceJars jars) {
        Check.due("length of a new pad", jars.count(13), 0);
    }

    static void dueNothingChanged(String name, Past past, Call call, long due) {
        for (int next = 0; next < NEXT.length; next++) {
            InfluenceJars asked = new InfluenceJars();
            InfluenceJars other = new InfluenceJars();
            past.on(asked);
            past.on(other);
            Check.due(name, call.on(asked), due);
            compare(name, asked, other);
            Check.due(name + ", what is done next", NEXT[next].on(asked), NEXT[next].on(other));
            compare(name + ", then the next thing " + next, asked, other);
        }
    }

    private static void compare(String name, InfluenceJars asked, InfluenceJars other) {
        Machines.dueState(name, asked, Machines.state(other));
        Check.due(name + ": the pad's length", asked.count(13), other.count(13));
        Check.due(name + ": the fault", asked.fault(), other.fault());
        Check.due(name + ": the history", asked.count(14), other.count(14));
    }

    /** Undoes all, and makes one number of all that was there on the way. */
    private static long undoAll(InfluenceJars jars) {
        long all = 0;
        for (int i = 0; i < 7; i++) {
            all = 31 * all + jars.undo();
            for (int number : Machines.state(jars)) {
                all = 31 * all + number;
            }
        }
        return all;
    }
}
