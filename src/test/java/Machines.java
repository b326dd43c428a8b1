/** Machines to begin a test with, and all that one tells. */
final class Machines {
    private Machines() {
    }

    static InfluenceJars with(int gain, int damp, int gap) {
        InfluenceJars jars = new InfluenceJars();
        jars.set(InfluenceJars.GAIN, gain);
        jars.set(InfluenceJars.DAMP, damp);
        jars.set(InfluenceJars.GAP, gap);
        return jars;
    }

    /** No induction and no leaks, so that answers can be told by hand; it has 3 changes. */
    static InfluenceJars calm(int gap) {
        return with(0, 0, gap);
    }

    /** All numbers of the state; not the pad's length and the history's. */
    static int[] state(InfluenceJars jars) {
        int[] all = new int[13 + 24 + 24 + 6];
        int next = 0;
        for (int what = 0; what < 13; what++) {
            all[next++] = jars.count(what);
        }
        for (int i = 0; i < 24; i++) {
            all[next++] = jars.sector(i / 12, i % 12);
            all[next++] = jars.spark(i / 3, i % 3);
        }
        for (int i = 0; i < 6; i++) {
            all[next++] = jars.jar(i / 3, i % 3);
        }
        return all;
    }

    static void dueState(String what, InfluenceJars jars, int[] want) {
        int[] got = state(jars);
        for (int i = 0; i < want.length; i++) {
            Check.due("number " + i + " behind " + what, got[i], want[i]);
        }
    }
}
