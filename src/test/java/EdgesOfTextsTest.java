/** Promises 6 and 10 to 12, sentence by sentence: the edges that the document names for texts. */
public final class EdgesOfTextsTest {
    public static void main(String[] args) {
        emptyAtFirst();
        atMost60Characters();
        anyCharacterIsTaken();
        clearTextTellsTheLength();
        theEmptyTextEndsTooEarly();
        textsThatEndTooEarly();
        oneOrMoreParts();
        heightsOfATextAre1To5();
        yardsOfAText();
        hoursOfAText();
        noZeroInFront();
        noHourGreaterThan23();
        windsOfAText();
        housesAndMillsOfAText();
        kindsOfAText();
        theFirstFaultIsTold();
        theLastIndexOfAFullText();
        fullTextsWithoutFault();
        fullTextsThatEndTooEarly();
        doAllTellsTheFault();
        doAllIsOneAct();
        allOfItOrNothing();
        theFirstErrorIsTold();
        partsSeeWhatWasDoneBefore();
        fullMapsInATurn();
        aWindThatIsSoAlreadyIsNoError();
        refusedComplaintsAreNoErrors();
        theTextStays();
        Due.end();
    }

    private static void dueFault(String text, int want) {
        MillComplaints desk = new MillComplaints();
        Due.type(desk, text);
        Due.due("fault of \"" + text + "\"", desk.fault(), want);
    }

    private static void dueNoFault(String text) {
        dueFault(text, -5);
    }

    private static String times(int count, String part) {
        StringBuilder text = new StringBuilder();
        for (int time = 0; time < count; time++) {
            text.append(part);
        }
        return text.toString();
    }

    /** "There is a text of at most 60 characters, empty at first." */
    private static void emptyAtFirst() {
        MillComplaints desk = new MillComplaints();
        Due.due("length", desk.count(11), 0);
        Due.due("clearText", desk.clearText(), 0);
        Due.due("the first character", desk.type('m'), 1);
    }

    /** "Returns the length then; FULL if it has 60 characters." */
    private static void atMost60Characters() {
        MillComplaints desk = new MillComplaints();
        for (int length = 1; length <= 60; length++) {
            Due.due("type", desk.type('h'), length);
            Due.due("length", desk.count(11), length);
        }
        Due.due("one more", desk.type('h'), -3);
        Due.due("and one more", desk.type(';'), -3);
        Due.due("length", desk.count(11), 60);
        Due.due("clearText", desk.clearText(), 60);
        Due.due("there is room again", desk.type('h'), 1);
    }

    /** "character: any character" */
    private static void anyCharacterIsTaken() {
        char[] characters = {0, 1, ' ', '\n', '~', 127, 128, 255, 256, 0x2603, 0xD83D, 0xDC00, 0xFFFE, 0xFFFF};
        for (char character : characters) {
            MillComplaints desk = new MillComplaints();
            Due.due("type", desk.type(character), 1);
            Due.due("fault of " + (int) character, desk.fault(), 0);
            Due.due("type", desk.type('m'), 2);
            Due.due("the first fault stays", desk.fault(), 0);
            Due.due("doAll", desk.doAll(), -100);
        }
        char[] like = {'m' + 256, 'h' + 256, 'w' + 512, 'c' + 1024, 'M', 'H', 'W', 'C'};
        for (char character : like) {
            MillComplaints desk = new MillComplaints();
            desk.type(character);
            Due.due("fault of " + (int) character, desk.fault(), 0);
        }
    }

    /** "Empties the text. Returns the length that it had." */
    private static void clearTextTellsTheLength() {
        MillComplaints desk = new MillComplaints();
        desk.type('x');
        Due.due("clearText", desk.clearText(), 1);
        Due.due("clearText again", desk.clearText(), 0);
        Due.due("fault", desk.fault(), 0);
        Due.type(desk, "h@a0");
        Due.due("no fault of the text that was", desk.fault(), -5);
        Due.due("no act", desk.count(10), 0);
    }

    /** "or the length of the text if it ends too early (the empty text does)" */
    private static void theEmptyTextEndsTooEarly() {
        dueFault("", 0);
        MillComplaints desk = new MillComplaints();
        Due.due("doAll", desk.doAll(), -100);
        Due.type(desk, "h@a0");
        desk.clearText();
        Due.due("emptied", desk.fault(), 0);
        Due.due("doAll", desk.doAll(), -100);
        Due.due("no act", desk.count(10), 0);
    }

    /** Each text without a fault, cut at any place, ends too early, but where a part has an end. */
    private static void textsThatEndTooEarly() {
        String[] texts = {"m1@a0", "h@a0", "w0=0", "w23=9", "c00n0", "c93s23", "m5@l7;h@l7;w10=1;c00n1"};
        for (String text : texts) {
            for (int length = 0; length < text.length(); length++) {
                String cut = text.substring(0, length);
                boolean isWhole = cut.matches(".*(@[a-l][0-7]|=[0-9]|[ns]2?[0-9])");
                dueFault(cut, isWhole ? -5 : length);
            }
            dueNoFault(text);
        }
    }

    /** "A text is one or more parts with ';' between two" */
    private static void oneOrMoreParts() {
        dueNoFault("h@a0");
        dueNoFault("h@a0;h@b0");
        dueNoFault("h@a0;m1@b0;w0=0;c00n0;h@c0");
        dueFault(";", 0);
        dueFault(";h@a0", 0);
        dueFault("h@a0;", 5);
        dueFault("h@a0;;h@b0", 5);
        dueFault("h@a0h@b0", 4);
        dueFault("h@a0,h@b0", 4);
        dueFault("h@a0 ;h@b0", 4);
        dueFault("h@a0; h@b0", 5);
        dueFault("w0=0w0=0", 4);
        dueFault("c00n0c00n0", 5);
        dueFault("c00n23;", 7);
    }

    /** "'m', a height (1 to 5), '@', a yard" */
    private static void heightsOfATextAre1To5() {
        for (char height = '1'; height <= '5'; height++) {
            dueNoFault("m" + height + "@a0");
        }
        dueFault("m0@a0", 1);
        dueFault("m6@a0", 1);
        dueFault("m9@a0", 1);
        dueFault("m/@a0", 1);
        dueFault("m-1@a0", 1);
        dueFault("m11@a0", 2);
        dueFault("m@a0", 1);
        dueFault("m5a0", 2);
        dueFault("m5@@a0", 3);
    }

    /** "A yard is a letter a to l for x and a digit 0 to 7 for y." */
    private static void yardsOfAText() {
        String letters = "abcdefghijkl";
        for (int yard = 0; yard < 96; yard++) {
            MillComplaints desk = new MillComplaints();
            Due.type(desk, "m3@" + letters.charAt(yard % 12) + yard / 12);
            Due.due("doAll", desk.doAll(), 1);
            Due.due("the mill's yard", desk.millOf(0, 1), yard);
            Due.due("the mill's height", desk.millOf(0, 0), 3);
        }
        dueFault("h@m0", 2);
        dueFault("h@`0", 2);
        dueFault("h@A0", 2);
        dueFault("h@L7", 2);
        dueFault("h@00", 2);
        dueFault("h@a8", 3);
        dueFault("h@a9", 3);
        dueFault("h@a/", 3);
        dueFault("h@l8", 3);
        dueFault("h@aa", 3);
        dueFault("h@a01", 4);
        dueFault("m1@m0", 3);
        dueFault("m1@l8", 4);
    }

    /** "an hour (0 to 23)" */
    private static void hoursOfAText() {
        for (int hour = 0; hour < 24; hour++) {
            dueNoFault("w" + hour + "=0");
            dueNoFault("c00n" + hour);
            dueNoFault("c00s" + hour);
            dueNoFault("c00s" + hour + ";h@a0");
            MillComplaints desk = new MillComplaints();
            Due.type(desk, "w" + hour + "=9");
            Due.due("doAll", desk.doAll(), 1);
            Due.due("the wind of " + hour, desk.wind(hour, hour, 9), -5);
            Due.due("the other hours have theirs", desk.wind(0, 23, 3), 1);
        }
        dueFault("w=0", 1);
        dueFault("w-1=0", 1);
        dueFault("wa=0", 1);
        dueFault("c00n-1", 4);
        dueFault("c00n;", 4);
    }

    /** "Hours have no zero in front, unless they are the single digit 0" */
    private static void noZeroInFront() {
        dueNoFault("w0=1");
        dueNoFault("c00n0");
        dueNoFault("c00n0;c00s0");
        for (char second = '0'; second <= '9'; second++) {
            dueFault("w0" + second + "=1", 2);
            dueFault("c00n0" + second, 5);
            dueFault("c00s0" + second, 5);
        }
        dueFault("w00=1", 2);
        dueFault("w000=1", 2);
    }

    /** "a digit by which one would be greater than 23 is not allowed" */
    private static void noHourGreaterThan23() {
        for (int hour = 24; hour < 100; hour++) {
            dueFault("w" + hour + "=1", 2);
            dueFault("c00n" + hour, 5);
            dueFault("c00s" + hour, 5);
        }
        for (int hour = 100; hour < 240; hour++) {
            dueFault("w" + hour + "=1", 3);
            dueFault("c00n" + hour, 6);
        }
        dueFault("w24", 2);
        dueFault("w240=1", 2);
    }

    /** "'w', an hour (0 to 23), '=', and a wind (0 to 9)" */
    private static void windsOfAText() {
        for (int wind = 0; wind <= 9; wind++) {
            MillComplaints desk = new MillComplaints();
            Due.type(desk, "w0=" + wind + ";w23=" + wind);
            Due.due("doAll", desk.doAll(), 2);
            Due.due("the wind of 0", desk.wind(0, 0, wind), -5);
            Due.due("the wind of 23", desk.wind(23, 23, wind), -5);
        }
        dueFault("w0=10", 4);
        dueFault("w0=-1", 3);
        dueFault("w0=/", 3);
        dueFault("w0=:", 3);
        dueFault("w0==1", 3);
        dueFault("w0", 2);
        dueFault("w0=", 3);
        dueFault("w01", 2);
        dueFault("w10=", 4);
        dueFault("w101", 3);
    }

    /** "'c', a house (0 to 9), a mill (0 to 3)" */
    private static void housesAndMillsOfAText() {
        for (int house = 0; house <= 9; house++) {
            for (int mill = 0; mill <= 3; mill++) {
                dueNoFault("c" + house + mill + "n0");
            }
            for (int mill = 4; mill <= 9; mill++) {
                dueFault("c" + house + mill + "n0", 2);
            }
        }
        dueFault("c/0n0", 1);
        dueFault("c:0n0", 1);
        dueFault("c0/n0", 2);
        dueFault("c100n0", 3);
        dueFault("c-10n0", 1);
        MillComplaints desk = new MillComplaints();
        Due.type(desk, "m1@a0;m1@c0;m1@e0;m1@g0;h@b0;h@d0;h@f0;h@h0");
        Due.due("doAll", desk.doAll(), 8);
        Due.type(desk, "h@a1;h@b1;h@c1;h@d1;h@e1;h@f1;c93n0;c00n0");
        Due.due("doAll", desk.doAll(), 8);
        Due.due("the house 9 of the mill 3", desk.houseOf(9, 3), 1);
        Due.due("points of the mill 3", desk.millOf(3, 5), 1);
        Due.due("the house 0 of the mill 0", desk.houseOf(0, 3), 1);
    }

    /** "'n' or 's'" */
    private static void kindsOfAText() {
        MillComplaints desk = new MillComplaints();
        Due.type(desk, "m1@b0;h@a0;w6=4;c00n6;c00s6;c00s6");
        Due.due("doAll", desk.doAll(), 6);
        Due.due("by noise", desk.why(0, 0, 0, 6), 2);
        Due.due("by shadow", desk.why(0, 0, 1, 6), 2);
        Due.due("heard", desk.count(2), 2);
        dueFault("c00N6", 3);
        dueFault("c00S6", 3);
        dueFault("c00m6", 3);
        dueFault("c00t6", 3);
        dueFault("c0006", 3);
        dueFault("c00ns6", 4);
    }

    /** "The fault of the text is the index, from 0, of the first character that is not allowed at its place" */
    private static void theFirstFaultIsTold() {
        dueFault("xyz", 0);
        dueFault("mx@yz", 1);
        dueFault("h@a0;x;y", 5);
        dueFault("h@a0;m0;m6", 6);
        dueFault("w24=x", 2);
        dueFault("c04x", 2);
        dueFault("h@a9;", 3);
        MillComplaints desk = new MillComplaints();
        Due.type(desk, "h@a0");
        desk.type('x');
        for (int length = 5; length < 60; length++) {
            Due.due("the fault stays", desk.fault(), 4);
            desk.type(';');
        }
        Due.due("a full text", desk.count(11), 60);
        Due.due("the fault stays", desk.fault(), 4);
        Due.due("doAll", desk.doAll(), -104);
    }

    /** The index of a fault is at most 59. */
    private static void theLastIndexOfAFullText() {
        String full = times(11, "h@a0;") + "h@a0";
        Due.due("length", full.length(), 59);
        dueFault(full + "x", 59);
        MillComplaints desk = new MillComplaints();
        Due.type(desk, full + "0");
        Due.due("doAll", desk.doAll(), -159);
    }

    /** A text of 60 characters may be without a fault. */
    private static void fullTextsWithoutFault() {
        MillComplaints other = new MillComplaints();
        String text = "m1@a0;" + times(9, "w1=1;") + "w1=2;h@b0";
        Due.due("length of the text", text.length(), 60);
        Due.type(other, text);
        Due.due("fault", other.fault(), -5);
        Due.due("one more", other.type(';'), -3);
        Due.due("the text stays without a fault", other.fault(), -5);
        Due.due("doAll", other.doAll(), 12);
        Due.due("the last part is done", other.yardOf(1, 1), 0);
        Due.due("the last wind is told", other.wind(1, 1, 2), -5);
    }

    /** A full text that ends too early has the fault 60. */
    private static void fullTextsThatEndTooEarly() {
        MillComplaints desk = new MillComplaints();
        Due.type(desk, times(12, "h@a0;"));
        Due.due("length", desk.count(11), 60);
        Due.due("fault", desk.fault(), 60);
        Due.due("doAll", desk.doAll(), -160);
        Due.due("nothing is done", desk.count(1), 0);
        Due.due("no act", desk.count(10), 0);
    }

    /** "-100 minus the fault of the text if it has one (which is an error)": ahead of the errors of the parts */
    private static void doAllTellsTheFault() {
        MillComplaints desk = new MillComplaints();
        desk.mill(1, 0);
        String[] texts = {"m1@a0;x", "c00n0;", "h@b0;h@b0;h", "h@b0;w1=1;w24=1"};
        int[] due = {-106, -106, -111, -112};
        for (int row = 0; row < texts.length; row++) {
            Due.type(desk, texts[row]);
            Due.due("doAll of " + texts[row], desk.doAll(), due[row]);
            Due.due("houses", desk.count(1), 0);
            Due.due("no act", desk.count(10), 1);
        }
    }

    /** "This is one act." */
    private static void doAllIsOneAct() {
        MillComplaints desk = new MillComplaints();
        Due.type(desk, "m1@a0;h@b0;h@c0;w0=9;c00n0;c10n0;c00n12");
        Due.due("doAll", desk.doAll(), 7);
        Due.due("one state", desk.count(10), 1);
        Due.due("undo", desk.undo(), 0);
        Due.same("all is undone", Told.of(desk), Told.of(new MillComplaints()));
    }

    /** "all of it or nothing" */
    private static void allOfItOrNothing() {
        String[] texts = {"h@d0;h@d0", "m1@d0;m1@d0", "m1@e0;h@f0;w0=9;w1=1;c00n3;c00n12;c10s12;h@a0", "w0=9;c20n0",
            "c00n3;c01n3", "h@d0;h@e0;c30n0;c40n0"};
        int[] due = {-4, -4, -4, -1, -1, -1};
        String before = Told.of(withHouses());
        for (int row = 0; row < texts.length; row++) {
            MillComplaints desk = withHouses();
            Due.type(desk, texts[row]);
            Due.due("doAll of " + texts[row], desk.doAll(), due[row]);
            Due.due("no act", desk.count(10), 1);
            Due.due("the text stays", desk.count(11), texts[row].length());
            Due.same("nothing is done of " + texts[row], Told.of(desk), before);
        }
    }

    private static MillComplaints withHouses() {
        MillComplaints desk = new MillComplaints();
        Due.type(desk, "m1@a0;h@b0;h@c0;c00n0");
        Due.due("doAll", desk.doAll(), 4);
        return desk;
    }

    /** "otherwise the error (UNKNOWN, NOT_POSSIBLE or FULL) that the method returns for the first part that has one" */
    private static void theFirstErrorIsTold() {
        String[] texts = {"c50n0;h@a0", "h@a0;c50n0", "m1@d0;m1@e0;m1@f0;m1@g0;h@a0", "h@a0;m1@d0;m1@e0;m1@f0;m1@g0",
            "m1@d0;m1@e0;m1@f0;m1@a0", "c50n12;c00n0", "c00n0;c02n12", "w0=3;w0=3;c00n0;h@b0"};
        int[] due = {-1, -4, -3, -4, -4, -1, -1, -4};
        for (int row = 0; row < texts.length; row++) {
            MillComplaints desk = withHouses();
            Due.type(desk, texts[row]);
            Due.due("doAll of " + texts[row], desk.doAll(), due[row]);
        }
    }

    /** "when its turn comes" */
    private static void partsSeeWhatWasDoneBefore() {
        MillComplaints desk = new MillComplaints();
        Due.type(desk, "h@a0;m1@b0;c00n0");
        Due.due("a house and a mill that the text brings", desk.doAll(), 3);
        Due.type(desk, "c10n0;h@c0");
        Due.due("a house that comes too late", desk.doAll(), -1);
        Due.type(desk, "h@c0;c10n0");
        Due.due("a house that comes in time", desk.doAll(), 2);
        Due.due("2 points tie", desk.millOf(0, 2), 1);
        Due.type(desk, "w1=1;c00n1;w1=9;c00n1;w1=0");
        Due.due("winds between complaints", desk.doAll(), 5);
        Due.due("the first in vain", desk.houseOf(0, 1), 1);
        Due.due("the second heard", desk.houseOf(0, 3), 2);
        Due.due("the last wind", desk.wind(1, 1, 0), -5);
    }

    /** FULL, in a text: the fifth mill, the eleventh house */
    private static void fullMapsInATurn() {
        MillComplaints mills = new MillComplaints();
        Due.type(mills, "m1@a0;m1@b0;m1@c0;m1@d0");
        Due.due("four mills", mills.doAll(), 4);
        Due.type(mills, "m1@e0");
        Due.due("a fifth", mills.doAll(), -3);
        Due.type(mills, "m1@a0");
        Due.due("something is there", mills.doAll(), -4);
        MillComplaints houses = new MillComplaints();
        Due.type(houses, "h@a0;h@b0;h@c0;h@d0;h@e0;h@f0;h@g0;h@h0;h@i0;h@j0");
        Due.due("ten houses", houses.doAll(), 10);
        Due.type(houses, "h@k0");
        Due.due("an eleventh", houses.doAll(), -3);
        Due.type(houses, "h@j0");
        Due.due("something is there", houses.doAll(), -4);
        houses.undo();
        Due.type(houses, "h@a0;h@b0;h@c0;h@d0;h@e0;h@f0;h@g0;h@h0;h@i0;h@j0;h@k0");
        Due.due("eleven at once", houses.doAll(), -3);
        Due.due("no house came", houses.count(1), 0);
    }

    /** "(A wind that is so already .. are no errors ..)" */
    private static void aWindThatIsSoAlreadyIsNoError() {
        MillComplaints desk = new MillComplaints();
        Due.type(desk, "w0=3;w23=3;h@a0");
        Due.due("doAll", desk.doAll(), 3);
        Due.due("the house came", desk.count(1), 1);
        Due.type(desk, "w0=3");
        Due.due("alone", desk.doAll(), 1);
        Due.due("is an act", desk.count(10), 2);
        Due.due("undo", desk.undo(), 1);
        Due.due("the house stays", desk.count(1), 1);
    }

    /** "and a complaint that is refused, are no errors; a vain complaint counts" */
    private static void refusedComplaintsAreNoErrors() {
        MillComplaints desk = withHouses();
        Due.type(desk, "c00n0;c00n12;c00s0;c00s12;c00n1;h@d0");
        Due.due("2, 5, 5, 6, 1, and a house", desk.doAll(), 6);
        Due.due("three in vain", desk.houseOf(0, 1), 3);
        Due.due("refused so far", desk.count(3), 3);
        Due.due("the house came", desk.count(1), 3);
        Due.type(desk, "c10n0;c20n0;w1=1;c10n1");
        Due.due("heard, 3, a wind, 4", desk.doAll(), 4);
        Due.due("tied", desk.millOf(0, 2), 1);
        Due.due("3 is not in vain", desk.houseOf(2, 1), 0);
        Due.due("4 is", desk.houseOf(1, 1), 1);
        Due.type(desk, "c00n1");
        Due.due("barred, alone", desk.doAll(), 1);
        Due.due("is an act of doAll", desk.count(10), 4);
    }

    /** "Does what the text tells, which stays": done again, and after undo */
    private static void theTextStays() {
        MillComplaints desk = new MillComplaints();
        Due.type(desk, "h@a0;w0=9");
        Due.due("doAll", desk.doAll(), 2);
        Due.due("length", desk.count(11), 9);
        Due.due("again", desk.doAll(), -4);
        desk.undo();
        Due.due("the text is not undone", desk.count(11), 9);
        Due.due("after undo", desk.doAll(), 2);
        desk.type(';');
        Due.due("it goes on", desk.fault(), 10);
        Due.due("and has a fault", desk.doAll(), -110);
    }
}
