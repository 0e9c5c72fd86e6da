/** Each method, with all combinations of the arguments at and beyond the edges, against SlowDesk; no call may throw. */
public final class ExtremesTest {
    private static final int[] WIDE = {Integer.MIN_VALUE, Integer.MIN_VALUE + 1, -101, -10, -2, -1, 0, 1, 2, 3, 4, 5, 6, 9, 10, 12,
        15, 16, 20, 21, 23, 24, 31, 32, 52, 53, 95, 96, 99, 100, 1 << 30, Integer.MAX_VALUE - 1, Integer.MAX_VALUE};
    private static final int[] NARROW = {Integer.MIN_VALUE, -1, 0, 1, 2, 3, 4, 6, 9, 10, 18, 23, 24, 32, 52, 96, Integer.MAX_VALUE};
    // The calls on one object stay well below the 512 that the document allows.
    private static final int CALLS = 300;

    private MillComplaints desk;
    private SlowDesk slow;
    private int calls = CALLS;

    public static void main(String[] args) {
        ExtremesTest test = new ExtremesTest();
        test.ofOneArgument();
        test.ofTwoArguments();
        test.ofThreeArguments();
        test.ofFourArguments();
        Due.end();
    }

    /** A village with tied sails and a house in vain, made anew after some hundred calls. */
    private void ready() {
        calls++;
        if (calls < CALLS) {
            return;
        }
        calls = 0;
        desk = new MillComplaints();
        slow = new SlowDesk();
        String text = "m5@f4;m2@b1;h@e4;h@g4;h@a1;w20=1;w9=9;c00n0;c20n12;c10n0";
        for (int index = 0; index < text.length(); index++) {
            desk.type(text.charAt(index));
            slow.type(text.charAt(index));
        }
        Due.due("doAll", desk.doAll(), slow.doAll());
        Due.due("tied", desk.count(8), 1);
    }

    private void due(String call, int got, int want) {
        if (got != want) {
            Due.due(call, got, want);
        }
    }

    private void ofOneArgument() {
        for (int round = 0; round < 4; round++) {
            for (int a : WIDE) {
                ready();
                String with = "(" + a + ")";
                due("house" + with, desk.house(a), slow.house(a));
                due("count" + with, desk.count(a), slow.count(a));
                due("quietHours" + with, desk.quietHours(a), slow.quietHours(a));
                due("loudest" + with, desk.loudest(a), slow.loudest(a));
                due("bestTied" + with, desk.bestTied(a), slow.bestTied(a));
                calls += 4;
            }
        }
    }

    private void ofTwoArguments() {
        for (int a : WIDE) {
            for (int b : WIDE) {
                ready();
                String with = "(" + a + ", " + b + ")";
                due("mill" + with, desk.mill(a, b), slow.mill(a, b));
                due("set" + with, desk.set(a, b), slow.set(a, b));
                due("vote" + with, desk.vote(a, b), slow.vote(a, b));
                due("yardOf" + with, desk.yardOf(a, b), slow.yardOf(a, b));
                due("millOf" + with, desk.millOf(a, b), slow.millOf(a, b));
                due("houseOf" + with, desk.houseOf(a, b), slow.houseOf(a, b));
                due("ifVoted" + with, desk.ifVoted(a, b), slow.ifVoted(a, b));
                calls += 6;
            }
        }
    }

    private void ofThreeArguments() {
        for (int a : WIDE) {
            for (int b : WIDE) {
                for (int c : NARROW) {
                    ready();
                    String with = "(" + a + ", " + b + ", " + c + ")";
                    due("wind" + with, desk.wind(a, b, c), slow.wind(a, b, c));
                    due("sue" + with, desk.sue(a, b, c), slow.sue(a, b, c));
                    due("noise" + with, desk.noise(a, b, c), slow.noise(a, b, c));
                    calls += 2;
                }
            }
        }
    }

    private void ofFourArguments() {
        for (int a : NARROW) {
            for (int b : NARROW) {
                for (int c : NARROW) {
                    for (int d : NARROW) {
                        ready();
                        String with = "(" + a + ", " + b + ", " + c + ", " + d + ")";
                        due("why" + with, desk.why(a, b, c, d), slow.why(a, b, c, d));
                        due("complain" + with, desk.complain(a, b, c, d), slow.complain(a, b, c, d));
                        due("shadow" + with, desk.shadow(a, b, c, d), slow.shadow(a, b, c, d));
                        calls += 2;
                    }
                }
            }
        }
    }
}
