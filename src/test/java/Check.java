/** Compares answers with those that are due; each test ends with end(). */
final class Check {
    private static int made = 0;
    private static int wrong = 0;

    private Check() {
    }

    static void due(String call, long got, long want) {
        made++;
        if (got != want) {
            wrong++;
            System.out.println(call + " answered " + got + ", due is " + want);
        }
    }

    static void holds(String what, boolean isSo) {
        made++;
        if (!isSo) {
            wrong++;
            System.out.println("does not hold: " + what);
        }
    }

    static int wrong() {
        return wrong;
    }

    /** The number that put() takes for up to 8 characters. */
    static long number(String characters) {
        long number = 0;
        for (int i = 0; i < characters.length(); i++) {
            number = number << 8 | characters.charAt(i);
        }
        return number;
    }

    /** Puts a text of any length on the pad, 8 characters at a time. */
    static void write(InfluenceJars jars, String text) {
        for (int i = 0; i < text.length(); i += 8) {
            jars.put(number(text.substring(i, Math.min(i + 8, text.length()))));
        }
    }

    static void end() {
        System.out.println(made + " checks, " + wrong + " wrong");
        if (wrong != 0) {
            System.exit(1);
        }
    }
}
