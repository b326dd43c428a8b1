/** Promises 1 to 22: runs of calls, made from fixed numbers, that the model answers alike. */
public final class ModelTest {
    private static final int RUNS = 240, CALLS = 300;
    private static final String SIGNS = "fbx.;=-0123456789f1=x;.9";

    private InfluenceJars jars = new InfluenceJars();
    private Model model = new Model();
    private long seed;

    public static void main(String[] args) {
        for (int run = 0; run < RUNS && Check.wrong() < 20; run++) {
            new ModelTest(run).callAll(run);
        }
        Check.end();
    }

    private ModelTest(int run) {
        seed = 977L * run + 12345;
    }

    private int next(int bound) {
        seed = seed * 6364136223846793005L + 1442695040888963407L;
        return (int) ((seed >>> 33) % bound);
    }

    /** A number from least to most, and now and then one that lies just outside. */
    private int near(int least, int most) {
        return next(25) == 0 ? (next(2) == 0 ? least - 1 : most + 1) : least + next(most - least + 1);
    }

    private void callAll(int run) {
        if (run % 3 != 0) {
            same(run, "set", 0, 20 + next(13), 0);
            same(run, "set", 2, 1 + next(12), 0);
        }
        for (int i = 0; i < CALLS; i++) {
            callOne(run);
            if (i % 10 == 9) {
                compareAll(run);
            }
        }
    }

    private void callOne(int run) {
        int kind = next(100);
        if (kind < 30) {
            same(run, "touch", near(0, 1), near(0, 11), near(-99, 99));
        } else if (kind < 48) {
            same(run, "turn", next(6) == 0 ? near(1, 99) : near(1, 9), 0, 0);
        } else if (kind < 56) {
            int[][] ranges = {{0, 32}, {0, 9}, {1, 60}, {0, 60}, {100, 400}, {-3, 70}};
            int setting = near(0, 4);
            int[] range = ranges[setting < 0 ? 5 : setting];
            same(run, "set", setting, near(range[0], range[1]), 0);
        } else if (kind < 78) {
            callRarer(run, kind);
        } else if (kind < 90) {
            putText(run);
        } else {
            same(run, next(2) == 0 ? "run" : next(3) == 0 ? "wipe" : "fault", 0, 0, 0);
        }
    }

    private void callRarer(int run, int kind) {
        if (kind < 58) {
            same(run, "discharge", 0, 0, 0);
        } else if (kind < 60) {
            same(run, "wipeDisc", near(0, 1), 0, 0);
        } else if (kind < 64) {
            same(run, "undo", 0, 0, 0);
        } else if (kind < 67) {
            same(run, "save", near(0, 1), 0, 0);
        } else if (kind < 70) {
            same(run, "restore", near(0, 1), 0, 0);
        } else if (kind < 74) {
            same(run, "ifTurned", near(1, 400), near(0, 5), 0);
        } else if (kind < 76) {
            same(run, "untilSpark", 0, 0, 0);
        } else {
            same(run, next(2) == 0 ? "widestGap" : "mostDamp", 0, 0, 0);
        }
    }

    private void putText(int run) {
        String[] good = {"f3=-45", "b11=99", "f0=0", "b10=-0", ".9", ".15", "x", "f11=-99", "b5=7"};
        String text = (next(2) == 0 ? ";" : "") + good[next(good.length)];
        if (next(6) == 0) {
            int at = next(text.length());
            text = text.substring(0, at) + SIGNS.charAt(next(SIGNS.length())) + text.substring(at);
        }
        long number = Check.number(text);
        if (next(40) == 0) {
            number ^= 1L << next(64);
        }
        if (next(3) == 0) {
            compare(run, "wipe()", jars.wipe(), model.wipe());
        }
        compare(run, "put(" + number + ")", jars.put(number), model.put(number));
    }

    private void compare(int run, String call, int got, int want) {
        Check.due("run " + run + ": " + call, got, want);
    }

    private void same(int run, String name, int a, int b, int c) {
        String call = name + "(" + a + ", " + b + ", " + c + ")";
        switch (name) {
            case "set": compare(run, call, jars.set(a, b), model.set(a, b)); break;
            case "touch": compare(run, call, jars.touch(a, b, c), model.touch(a, b, c)); break;
            case "turn": compare(run, call, jars.turn(a), model.turn(a)); break;
            case "discharge": compare(run, call, jars.discharge(), model.discharge()); break;
            case "wipeDisc": compare(run, call, jars.wipeDisc(a), model.wipeDisc(a)); break;
            case "run": compare(run, call, jars.run(), model.run()); break;
            case "wipe": compare(run, call, jars.wipe(), model.wipe()); break;
            case "fault": compare(run, call, jars.fault(), model.fault()); break;
            case "undo": compare(run, call, jars.undo(), model.undo()); break;
            case "save": compare(run, call, jars.save(a), model.save(a)); break;
            case "restore": compare(run, call, jars.restore(a), model.restore(a)); break;
            case "ifTurned": compare(run, call, jars.ifTurned(a, b), model.ifTurned(a, b)); break;
            case "untilSpark": compare(run, call, jars.untilSpark(), model.untilSpark()); break;
            case "widestGap": compare(run, call, jars.widestGap(), model.widestGap()); break;
            case "mostDamp": compare(run, call, jars.mostDamp(), model.mostDamp()); break;
            default: throw new IllegalArgumentException(name);
        }
    }

    private void compareAll(int run) {
        for (int disc = -1; disc <= 2; disc++) {
            for (int place = -1; place <= 12; place++) {
                compare(run, "sector(" + disc + ", " + place + ")", jars.sector(disc, place), model.sector(disc, place));
            }
            for (int what = -1; what <= 5; what++) {
                compare(run, "disc(" + disc + ", " + what + ")", jars.disc(disc, what), model.disc(disc, what));
                compare(run, "jar(" + disc + ", " + what + ")", jars.jar(disc, what), model.jar(disc, what));
            }
        }
        for (int ago = -1; ago <= 9; ago++) {
            for (int what = -1; what <= 3; what++) {
                compare(run, "spark(" + ago + ", " + what + ")", jars.spark(ago, what), model.spark(ago, what));
            }
        }
        for (int what = -1; what <= 15; what++) {
            compare(run, "count(" + what + ")", jars.count(what), model.count(what));
        }
    }
}
