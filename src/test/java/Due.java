/** Compares answers with those that are due; end() leaves with exit code 1 if one differed. */
final class Due {
    private static int wrong = 0;

    private Due() {
    }

    static void due(String call, long got, long want) {
        if (got != want) {
            wrong++;
            System.out.println(call + " answered " + got + ", due is " + want);
        }
    }

    static void dueFloat(String call, float got, float want) {
        if (Float.compare(got, want) != 0) {
            wrong++;
            System.out.println(call + " answered " + got + ", due is " + want);
        }
    }

    static void same(String what, String got, String want) {
        if (!got.equals(want)) {
            wrong++;
            System.out.println(what + ": told is " + got + ", due is " + want);
        }
    }

    static void type(MillComplaints desk, String text) {
        desk.clearText();
        for (int index = 0; index < text.length(); index++) {
            due("type of sign " + index + " of " + text, desk.type(text.charAt(index)), index + 1);
        }
    }

    static int yard(int x, int y) {
        return 12 * y + x;
    }

    /** The hours from one to another, as a set. */
    static int hours(int from, int to) {
        int set = 0;
        for (int hour = from; hour <= to; hour++) {
            set |= 1 << hour;
        }
        return set;
    }

    static void end() {
        if (wrong != 0) {
            System.out.println(wrong + " answers are not as due");
            System.exit(1);
        }
        System.out.println("all answers are as due");
    }
}
