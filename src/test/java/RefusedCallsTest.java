/** "A call that returns an error or NONE changes nothing.": not the state, the text, the history, the snapshot. */
public final class RefusedCallsTest {
    private static final int PROBES = 7;

    private interface Call {
        int on(MillComplaints desk);
    }

    private interface Maker {
        MillComplaints make();
    }

    private final Maker maker;
    private final String[] untouched = new String[PROBES];

    private RefusedCallsTest(Maker maker) {
        this.maker = maker;
        for (int probe = 0; probe < PROBES; probe++) {
            untouched[probe] = told(maker.make(), probe);
        }
    }

    public static void main(String[] args) {
        onANewObject(new RefusedCallsTest(MillComplaints::new));
        RefusedCallsTest rich = new RefusedCallsTest(RefusedCallsTest::rich);
        refusedOnTheMap(rich);
        refusedWindsAndSettings(rich);
        refusedComplaints(rich);
        refusedSuitsAndVotes(rich);
        refusedQuestions(rich);
        onAFullMap(new RefusedCallsTest(RefusedCallsTest::full));
        refusedTexts();
        Due.end();
    }

    /** What is told after a probe: 0 nothing more, 1 restore, 2 to 5 so many undos (less 1), 6 doAll. */
    private static String told(MillComplaints desk, int probe) {
        StringBuilder told = new StringBuilder();
        told.append(desk.count(10)).append(' ').append(desk.count(11)).append(' ').append(desk.fault()).append(' ');
        if (probe == 1) {
            told.append(desk.restore()).append(' ');
        }
        for (int time = 2; time <= probe && probe < 6; time++) {
            told.append(desk.undo()).append(' ');
        }
        if (probe == 6) {
            told.append(desk.doAll()).append(' ');
        }
        return told.append(Told.of(desk)).toString();
    }

    private void due(String call, Call refused, int answer) {
        for (int probe = 0; probe < PROBES; probe++) {
            MillComplaints desk = maker.make();
            Due.due(call, refused.on(desk), answer);
            Due.same("after " + call + ", probe " + probe, told(desk, probe), untouched[probe]);
        }
    }

    /** Two mills, three houses, sails that are tied, vain complaints, a snapshot, four states, a text to be done. */
    private static MillComplaints rich() {
        MillComplaints desk = new MillComplaints();
        Due.type(desk, "m5@f4;m2@b1;h@e4;h@g4;h@l7;w20=1;c00n0;c20n12;c20n12");
        Due.due("doAll", desk.doAll(), 9);
        desk.set(2, 1);
        Due.due("tied", desk.complain(1, 0, 0, 1), 1);
        desk.keep();
        Due.due("in vain", desk.complain(2, 0, 0, 13), -15);
        Due.due("heard", desk.complain(0, 1, 0, 12), -15);
        desk.wind(7, 7, 4);
        desk.set(3, 3);
        Due.type(desk, "w5=9;h@a0;c01n3");
        return desk;
    }

    private static MillComplaints full() {
        MillComplaints desk = new MillComplaints();
        Due.type(desk, "m5@a0;m4@c0;m3@e0;m2@g0");
        Due.due("four mills", desk.doAll(), 4);
        Due.type(desk, "h@b0;h@d0;h@f0;h@h0;h@a1;h@b1;h@c1;h@d1;h@e1;h@f1");
        Due.due("ten houses", desk.doAll(), 10);
        desk.keep();
        desk.wind(0, 23, 4);
        Due.due("heard", desk.complain(0, 0, 0, 0), 1);
        Due.type(desk, "w0=1;w0=2;w0=3;w0=1;w0=2;w0=3;w0=1;w0=2;w0=3;w0=1;w0=2;w0=33");
        Due.due("a full text", desk.count(11), 60);
        return desk;
    }

    private static void onANewObject(RefusedCallsTest test) {
        test.due("undo", desk -> desk.undo(), -5);
        test.due("restore", desk -> desk.restore(), -5);
        test.due("doAll", desk -> desk.doAll(), -100);
        test.due("wind as it is", desk -> desk.wind(0, 23, 3), -5);
        test.due("set as it is", desk -> desk.set(3, 8), -5);
        test.due("complain", desk -> desk.complain(0, 0, 0, 0), -1);
        test.due("sue", desk -> desk.sue(0, 0, 0), -1);
        test.due("vote", desk -> desk.vote(0, 0), -1);
        test.due("mill", desk -> desk.mill(0, 0), -2);
        test.due("house", desk -> desk.house(96), -1);
        test.due("loudest", desk -> desk.loudest(0), -5);
        test.due("clearText is no error, and changes nothing here", desk -> desk.clearText(), 0);
    }

    private static void refusedOnTheMap(RefusedCallsTest test) {
        test.due("mill(1, -1)", desk -> desk.mill(1, -1), -1);
        test.due("mill(1, 96)", desk -> desk.mill(1, 96), -1);
        test.due("mill(0, 96): UNKNOWN ahead of BAD_VALUE", desk -> desk.mill(0, 96), -1);
        test.due("mill(0, 0)", desk -> desk.mill(0, 0), -2);
        test.due("mill(6, 0)", desk -> desk.mill(6, 0), -2);
        test.due("mill(6, 53): BAD_VALUE ahead of NOT_POSSIBLE", desk -> desk.mill(6, 53), -2);
        test.due("mill(1, 53): on a mill", desk -> desk.mill(1, 53), -4);
        test.due("mill(1, 52): on a house", desk -> desk.mill(1, 52), -4);
        test.due("house(-1)", desk -> desk.house(-1), -1);
        test.due("house(96)", desk -> desk.house(96), -1);
        test.due("house(53): on a mill", desk -> desk.house(53), -4);
        test.due("house(52): on a house", desk -> desk.house(52), -4);
    }

    private static void refusedWindsAndSettings(RefusedCallsTest test) {
        test.due("wind(-1, 0, 9)", desk -> desk.wind(-1, 0, 9), -1);
        test.due("wind(0, 24, 9)", desk -> desk.wind(0, 24, 9), -1);
        test.due("wind(24, 24, 9)", desk -> desk.wind(24, 24, 9), -1);
        test.due("wind(6, 5, 9)", desk -> desk.wind(6, 5, 9), -1);
        test.due("wind(6, 5, 10): UNKNOWN ahead of BAD_VALUE", desk -> desk.wind(6, 5, 10), -1);
        test.due("wind(0, 23, -1)", desk -> desk.wind(0, 23, -1), -2);
        test.due("wind(0, 23, 10)", desk -> desk.wind(0, 23, 10), -2);
        test.due("wind(0, 6, 3): so already", desk -> desk.wind(0, 6, 3), -5);
        test.due("wind(20, 20, 1): so already", desk -> desk.wind(20, 20, 1), -5);
        test.due("set(-1, 5)", desk -> desk.set(-1, 5), -2);
        test.due("set(4, 5)", desk -> desk.set(4, 5), -2);
        test.due("set(0, -1)", desk -> desk.set(0, -1), -2);
        test.due("set(0, 21)", desk -> desk.set(0, 21), -2);
        test.due("set(1, 21)", desk -> desk.set(1, 21), -2);
        test.due("set(2, 0)", desk -> desk.set(2, 0), -2);
        test.due("set(2, 10)", desk -> desk.set(2, 10), -2);
        test.due("set(3, 100)", desk -> desk.set(3, 100), -2);
        test.due("set(2, 1): so already", desk -> desk.set(2, 1), -5);
        test.due("set(3, 3): so already", desk -> desk.set(3, 3), -5);
    }

    private static void refusedComplaints(RefusedCallsTest test) {
        test.due("complain(3, 0, 0, 2)", desk -> desk.complain(3, 0, 0, 2), -1);
        test.due("complain(-1, 0, 0, 2)", desk -> desk.complain(-1, 0, 0, 2), -1);
        test.due("complain(0, 2, 0, 2)", desk -> desk.complain(0, 2, 0, 2), -1);
        test.due("complain(0, -1, 0, 2)", desk -> desk.complain(0, -1, 0, 2), -1);
        test.due("complain(0, 0, 0, 24)", desk -> desk.complain(0, 0, 0, 24), -1);
        test.due("complain(0, 0, 0, -1)", desk -> desk.complain(0, 0, 0, -1), -1);
        test.due("complain(0, 0, 2, 24): UNKNOWN ahead of BAD_VALUE", desk -> desk.complain(0, 0, 2, 24), -1);
        test.due("complain(0, 0, 2, 2)", desk -> desk.complain(0, 0, 2, 2), -2);
        test.due("complain(0, 0, -1, 2)", desk -> desk.complain(0, 0, -1, 2), -2);
        test.due("complain(2, 0, 2, 2): BAD_VALUE ahead of the reasons", desk -> desk.complain(2, 0, 2, 2), -2);
        test.due("complain(2, 0, 0, 2): barred", desk -> desk.complain(2, 0, 0, 2), -11);
        test.due("complain(0, 0, 0, 0): it stands", desk -> desk.complain(0, 0, 0, 0), -12);
        test.due("complain(1, 0, 0, 1): it stands", desk -> desk.complain(1, 0, 0, 1), -12);
        test.due("complain(0, 0, 0, 1): tied", desk -> desk.complain(0, 0, 0, 1), -13);
        test.due("complain(0, 0, 1, 1): tied", desk -> desk.complain(0, 0, 1, 1), -13);
    }

    private static void refusedSuitsAndVotes(RefusedCallsTest test) {
        test.due("sue(2, 1, 1)", desk -> desk.sue(2, 1, 1), -1);
        test.due("sue(-1, 1, 1)", desk -> desk.sue(-1, 1, 1), -1);
        test.due("sue(0, 3, 1)", desk -> desk.sue(0, 3, 1), -1);
        test.due("sue(0, -1, 1)", desk -> desk.sue(0, -1, 1), -1);
        test.due("sue(0, 1, 24)", desk -> desk.sue(0, 1, 24), -1);
        test.due("sue(0, 1, -1)", desk -> desk.sue(0, 1, -1), -1);
        test.due("sue(0, 0, 0): a complaint, but not tied", desk -> desk.sue(0, 0, 0), -4);
        test.due("sue(0, 0, 1): tied, but no complaint", desk -> desk.sue(0, 0, 1), -4);
        test.due("sue(1, 1, 1): another mill", desk -> desk.sue(1, 1, 1), -4);
        test.due("vote(2, 1)", desk -> desk.vote(2, 1), -1);
        test.due("vote(-1, 1)", desk -> desk.vote(-1, 1), -1);
        test.due("vote(0, 24)", desk -> desk.vote(0, 24), -1);
        test.due("vote(0, -1)", desk -> desk.vote(0, -1), -1);
        test.due("vote(0, 0): not tied", desk -> desk.vote(0, 0), -4);
        test.due("vote(1, 1): not tied", desk -> desk.vote(1, 1), -4);
    }

    private static void refusedQuestions(RefusedCallsTest test) {
        test.due("yardOf(96, 0)", desk -> desk.yardOf(96, 0), -1);
        test.due("yardOf(0, 2)", desk -> desk.yardOf(0, 2), -2);
        test.due("yardOf(0, 0)", desk -> desk.yardOf(0, 0), -5);
        test.due("millOf(2, 0)", desk -> desk.millOf(2, 0), -1);
        test.due("millOf(0, 6)", desk -> desk.millOf(0, 6), -2);
        test.due("houseOf(3, 0)", desk -> desk.houseOf(3, 0), -1);
        test.due("houseOf(0, 6)", desk -> desk.houseOf(0, 6), -2);
        test.due("noise(0, 96, 0)", desk -> desk.noise(0, 96, 0), -1);
        test.due("shadow(0, 96, 0, 0)", desk -> desk.shadow(0, 96, 0, 0), -1);
        test.due("shadow(0, 52, 6, 2)", desk -> desk.shadow(0, 52, 6, 2), -2);
        test.due("why(3, 0, 0, 0)", desk -> desk.why(3, 0, 0, 0), -1);
        test.due("why(0, 0, 2, 0)", desk -> desk.why(0, 0, 2, 0), -2);
        test.due("count(16)", desk -> desk.count(16), -2);
        test.due("quietHours(2)", desk -> desk.quietHours(2), -1);
        test.due("loudest(24)", desk -> desk.loudest(24), -1);
        test.due("loudest(20)", desk -> desk.loudest(20), -5);
        test.due("bestTied(2)", desk -> desk.bestTied(2), -1);
        test.due("ifVoted(0, 24)", desk -> desk.ifVoted(0, 24), -1);
    }

    private static void onAFullMap(RefusedCallsTest test) {
        test.due("mill(1, 95)", desk -> desk.mill(1, 95), -3);
        test.due("mill(1, 0): NOT_POSSIBLE ahead of FULL", desk -> desk.mill(1, 0), -4);
        test.due("mill(0, 95): BAD_VALUE ahead of FULL", desk -> desk.mill(0, 95), -2);
        test.due("mill(1, 96): UNKNOWN ahead of FULL", desk -> desk.mill(1, 96), -1);
        test.due("house(95)", desk -> desk.house(95), -3);
        test.due("house(0): NOT_POSSIBLE ahead of FULL", desk -> desk.house(0), -4);
        test.due("house(96): UNKNOWN ahead of FULL", desk -> desk.house(96), -1);
        test.due("type(';'): the text is full", desk -> desk.type(';'), -3);
        test.due("doAll: a fault at 59", desk -> desk.doAll(), -159);
    }

    /** doAll with a text that it refuses: all that the text told is taken back. */
    private static void refusedTexts() {
        String[] texts = {"", "h", "h@a0;", "h@a0;w24=1", "w0=9;c00n0;c20n0;h@g0;h@f4", "h@a1;m1@a1", "m1@a0;m1@d0;m1@e0",
            "c30n0", "w0=9;w1=9;c02n0", "c00n3;c00s7;c10n3;c13n0", "h@g0;c30n12;c30n12;c30n12;c40n0"};
        int[] due = {-100, -101, -105, -107, -4, -4, -3, -1, -1, -1, -1};
        for (int row = 0; row < texts.length; row++) {
            String text = texts[row];
            RefusedCallsTest test = new RefusedCallsTest(() -> {
                MillComplaints desk = rich();
                Due.type(desk, text);
                return desk;
            });
            test.due("doAll of \"" + text + "\"", desk -> desk.doAll(), due[row]);
        }
    }
}
