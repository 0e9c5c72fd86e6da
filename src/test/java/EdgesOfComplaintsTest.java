/** Promises 7 and 21, sentence by sentence: the edges that the document names for complaints and their refusal. */
public final class EdgesOfComplaintsTest {
    public static void main(String[] args) {
        noSuchHouseMillOrHour();
        kindsAre0And1();
        eachReasonByItself();
        barredAheadOfAllReasons();
        standingAheadOfTheOthers();
        tiedSailsAheadOfTheOthers();
        lowWindAheadOfTheOthers();
        theSameComplaintHasTheSameKindMillAndHour();
        aComplaintThatIsGoneStandsNoMore();
        refusalsFor4To6Count();
        refusalsFor1To3DoNotCount();
        threeVainComplaintsBar();
        aBarredHouseIsBarredFromAll();
        fewerPointsDoNotTie();
        asManyPointsTie();
        morePointsTie();
        theSetting2AtItsEdges();
        pointsAreOfAnHourAndAMill();
        complaintsInTheHours0And23();
        whyChangesNothing();
        Due.end();
    }

    /** A mill of height 5 at (5, 4), with the house 0 to its west, the house 1 to its east, and the house 2 far away. */
    private static MillComplaints village() {
        MillComplaints desk = new MillComplaints();
        desk.mill(5, Due.yard(5, 4));
        desk.house(Due.yard(4, 4));
        desk.house(Due.yard(6, 4));
        desk.house(Due.yard(11, 7));
        return desk;
    }

    /** Why a complaint would be refused, and what it answers then. */
    private static void dueReason(MillComplaints desk, int house, int kind, int hour, int reason) {
        String told = "house " + house + ", kind " + kind + ", hour " + hour;
        Due.due("why of " + told, desk.why(house, 0, kind, hour), reason);
        Due.due("complaint of " + told, desk.complain(house, 0, kind, hour), -10 - reason);
    }

    /** "house: 0 or more; mill: 0 or more; hour: 0 to 23 .. UNKNOWN" */
    private static void noSuchHouseMillOrHour() {
        int[] noHouses = {-1, 3, 9, 10, Integer.MIN_VALUE, Integer.MAX_VALUE};
        int[] noMills = {-1, 1, 3, 4, Integer.MIN_VALUE, Integer.MAX_VALUE};
        int[] noHours = {-1, 24, Integer.MIN_VALUE, Integer.MAX_VALUE};
        MillComplaints desk = village();
        for (int kind = -1; kind <= 2; kind++) {
            for (int house : noHouses) {
                Due.due("complain: no house " + house, desk.complain(house, 0, kind, 0), -1);
                Due.due("why: no house " + house, desk.why(house, 0, kind, 0), -1);
            }
            for (int mill : noMills) {
                Due.due("complain: no mill " + mill, desk.complain(0, mill, kind, 0), -1);
                Due.due("why: no mill " + mill, desk.why(0, mill, kind, 0), -1);
            }
            for (int hour : noHours) {
                Due.due("complain: no hour " + hour, desk.complain(0, 0, kind, hour), -1);
                Due.due("why: no hour " + hour, desk.why(0, 0, kind, hour), -1);
            }
        }
        Due.due("nothing heard", desk.count(2), 0);
        Due.due("nothing refused", desk.count(3), 0);
        MillComplaints empty = new MillComplaints();
        Due.due("on an empty map", empty.complain(0, 0, 0, 0), -1);
        Due.due("on an empty map", empty.why(0, 0, 0, 0), -1);
        empty.mill(1, 0);
        Due.due("without houses", empty.complain(0, 0, 0, 0), -1);
        MillComplaints houses = new MillComplaints();
        houses.house(0);
        Due.due("without mills", houses.complain(0, 0, 0, 0), -1);
    }

    /** "kind: 0 or 1 .. BAD_VALUE" */
    private static void kindsAre0And1() {
        int[] bad = {-1, 2, Integer.MIN_VALUE, Integer.MAX_VALUE};
        MillComplaints desk = village();
        for (int kind : bad) {
            Due.due("complain: kind " + kind, desk.complain(0, 0, kind, 0), -2);
            Due.due("why: kind " + kind, desk.why(0, 0, kind, 0), -2);
        }
        desk.complain(2, 0, 0, 12);
        desk.complain(2, 0, 0, 12);
        desk.complain(2, 0, 0, 12);
        Due.due("a bad kind of a barred house", desk.complain(2, 0, 2, 0), -2);
        Due.due("a bad kind of a barred house", desk.why(2, 0, 2, 0), -2);
    }

    /** "It is refused for the first of these reasons: 1 .. 6" */
    private static void eachReasonByItself() {
        MillComplaints desk = village();
        desk.set(2, 2);
        desk.wind(20, 20, 1);
        Due.due("0 by noise", desk.complain(0, 0, 0, 0), 1);
        dueReason(desk, 0, 0, 0, 2);
        Due.due("1 by noise", desk.complain(1, 0, 0, 0), 2);
        dueReason(desk, 0, 1, 0, 3);
        dueReason(desk, 1, 0, 20, 4);
        dueReason(desk, 0, 0, 12, 5);
        dueReason(desk, 0, 1, 3, 5);
        dueReason(desk, 0, 1, 18, 6);
        dueReason(desk, 0, 0, 1, 1);
        Due.due("1 by shadow", desk.complain(1, 0, 1, 18), 1);
    }

    /** "1 the house is barred": ahead of 2 to 6 */
    private static void barredAheadOfAllReasons() {
        MillComplaints desk = village();
        desk.complain(0, 0, 0, 1);
        desk.complain(0, 0, 0, 2);
        desk.complain(1, 0, 0, 2);
        desk.wind(3, 3, 1);
        desk.complain(0, 0, 0, 12);
        desk.complain(0, 0, 0, 13);
        desk.complain(0, 0, 0, 14);
        Due.due("barred", desk.houseOf(0, 2), 1);
        dueReason(desk, 0, 0, 1, 1);
        dueReason(desk, 0, 1, 2, 1);
        dueReason(desk, 0, 0, 3, 1);
        dueReason(desk, 0, 0, 12, 1);
        dueReason(desk, 0, 1, 0, 1);
        dueReason(desk, 0, 1, 18, 1);
        dueReason(desk, 0, 0, 4, 1);
    }

    /** "2 the same complaint of it stands already": ahead of 3 to 6 */
    private static void standingAheadOfTheOthers() {
        MillComplaints desk = village();
        desk.complain(0, 0, 0, 1);
        desk.complain(1, 0, 0, 1);
        Due.due("its sails are tied", desk.millOf(0, 2), 2);
        dueReason(desk, 0, 0, 1, 2);
        desk.complain(0, 0, 0, 2);
        desk.wind(2, 2, 1);
        dueReason(desk, 0, 0, 2, 2);
        desk.complain(0, 0, 1, 6);
        desk.wind(6, 6, 0);
        dueReason(desk, 0, 1, 6, 2);
        desk.complain(0, 0, 0, 3);
        desk.set(1, 20);
        dueReason(desk, 0, 0, 3, 2);
        Due.due("none was in vain", desk.houseOf(0, 1), 0);
    }

    /** "3 the sails are tied in this hour": ahead of 4 to 6 */
    private static void tiedSailsAheadOfTheOthers() {
        MillComplaints desk = village();
        desk.set(2, 1);
        desk.complain(0, 0, 0, 0);
        desk.complain(0, 0, 1, 6);
        dueReason(desk, 1, 1, 0, 3);
        dueReason(desk, 2, 0, 0, 3);
        dueReason(desk, 1, 1, 6, 3);
        desk.wind(0, 6, 1);
        dueReason(desk, 1, 0, 0, 3);
        dueReason(desk, 1, 1, 6, 3);
        Due.due("none was in vain", desk.houseOf(1, 1), 0);
    }

    /** "4 the wind is below 2": ahead of 5 and 6 */
    private static void lowWindAheadOfTheOthers() {
        MillComplaints desk = village();
        desk.wind(0, 23, 1);
        dueReason(desk, 0, 0, 12, 4);
        dueReason(desk, 0, 1, 0, 4);
        dueReason(desk, 1, 1, 6, 4);
        desk.wind(0, 23, 0);
        dueReason(desk, 1, 0, 12, 4);
        desk.wind(0, 23, 2);
        Due.due("at 2: not troubled by noise", desk.why(2, 0, 0, 12), 5);
        Due.due("at 2: no sun", desk.why(2, 0, 1, 0), 5);
        Due.due("at 2: no shadow", desk.why(2, 0, 1, 6), 6);
        Due.due("at 2: troubled by shadow", desk.why(1, 0, 1, 18), 0);
    }

    /** "the same complaint": of the same house and mill, of the same kind, for the same hour */
    private static void theSameComplaintHasTheSameKindMillAndHour() {
        MillComplaints desk = village();
        desk.mill(5, Due.yard(5, 3));
        desk.set(2, 9);
        desk.wind(6, 9, 4);
        Due.due("heard", desk.complain(0, 0, 0, 6), 1);
        Due.due("the same", desk.complain(0, 0, 0, 6), -12);
        Due.due("another hour", desk.complain(0, 0, 0, 7), 1);
        Due.due("another kind", desk.complain(0, 0, 1, 6), 2);
        Due.due("another mill", desk.complain(0, 1, 0, 6), 1);
        Due.due("another house", desk.complain(1, 0, 0, 6), 3);
        Due.due("the same by shadow", desk.complain(0, 0, 1, 6), -12);
        Due.due("standing", desk.houseOf(0, 3), 4);
    }

    /** "(it was heard, and is not gone)" */
    private static void aComplaintThatIsGoneStandsNoMore() {
        MillComplaints sued = village();
        sued.set(2, 1);
        sued.set(3, 0);
        sued.complain(0, 0, 0, 0);
        Due.due("sue", sued.sue(0, 0, 0), 1);
        Due.due("heard again after the suit", sued.complain(0, 0, 0, 0), 1);
        MillComplaints voted = village();
        voted.set(2, 1);
        voted.complain(0, 0, 1, 6);
        Due.due("vote", voted.vote(0, 6), 2);
        Due.due("heard again after the vote", voted.complain(0, 0, 1, 6), 1);
        MillComplaints undone = village();
        undone.complain(0, 0, 0, 0);
        undone.undo();
        Due.due("heard again after undo", undone.complain(0, 0, 0, 0), 1);
        MillComplaints refused = village();
        refused.complain(0, 0, 0, 12);
        Due.due("a refused one does not stand", refused.complain(0, 0, 0, 12), -15);
    }

    /** "A refusal for 4, 5 or 6 counts as a vain complaint of the house"; "an act, also if it is refused for the reasons 4 to 6" */
    private static void refusalsFor4To6Count() {
        int[][] rows = {{0, 20, -14}, {1, 20, -14}, {0, 12, -15}, {1, 0, -15}, {1, 23, -15}, {1, 12, -16}, {1, 18, -16}};
        for (int[] row : rows) {
            MillComplaints desk = new MillComplaints();
            Due.type(desk, "m5@f4;h@e4;h@g4;w20=1");
            Due.due("doAll", desk.doAll(), 4);
            Due.due("kind " + row[0] + " at " + row[1], desk.complain(0, 0, row[0], row[1]), row[2]);
            Due.due("vain", desk.houseOf(0, 1), 1);
            Due.due("not of the other house", desk.houseOf(1, 1), 0);
            Due.due("refused", desk.count(3), 1);
            Due.due("heard", desk.count(2), 0);
            Due.due("no point", desk.millOf(0, 5), 0);
            Due.due("recorded", desk.count(10), 2);
            Due.due("undo", desk.undo(), 1);
            Due.due("not in vain then", desk.houseOf(0, 1), 0);
            Due.due("not refused then", desk.count(3), 0);
        }
    }

    /** "-10 minus the reason 1 to 6 if it is refused (which is an error for 1 to 3 alone)" */
    private static void refusalsFor1To3DoNotCount() {
        MillComplaints desk = new MillComplaints();
        Due.type(desk, "m5@f4;h@e4;h@g4;c00n12;c00n12;c00n12;c10n0");
        Due.due("doAll", desk.doAll(), 7);
        String before = Told.of(desk);
        MillComplaints other = new MillComplaints();
        Due.type(other, "m5@f4;h@e4;h@g4;c00n12;c00n12;c00n12;c10n0");
        other.doAll();
        Due.due("barred", other.complain(0, 0, 0, 0), -11);
        Due.due("it stands", other.complain(1, 0, 0, 0), -12);
        Due.due("no act", other.count(10), 1);
        Due.same("nothing is changed", Told.of(other), before);
        MillComplaints tied = village();
        tied.set(2, 1);
        tied.complain(0, 0, 0, 0);
        tied.undo();
        tied.complain(0, 0, 0, 0);
        Due.due("tied", tied.complain(1, 0, 0, 0), -13);
        Due.due("not in vain", tied.houseOf(1, 1), 0);
        Due.due("not refused", tied.count(3), 0);
        Due.due("undo", tied.undo(), 3);
        Due.due("it is the complaint ahead of it that is undone", tied.millOf(0, 5), 0);
    }

    /** "a house with 3 vain complaints is barred" */
    private static void threeVainComplaintsBar() {
        MillComplaints desk = village();
        for (int vain = 0; vain < 3; vain++) {
            Due.due("vain", desk.houseOf(0, 1), vain);
            Due.due("not barred by " + vain, desk.houseOf(0, 2), 0);
            Due.due("why", desk.why(0, 0, 0, 0), 0);
            Due.due("in vain", desk.complain(0, 0, 0, 12), -15);
        }
        Due.due("vain", desk.houseOf(0, 1), 3);
        Due.due("barred by 3", desk.houseOf(0, 2), 1);
        Due.due("why", desk.why(0, 0, 0, 0), 1);
        Due.due("no fourth one", desk.complain(0, 0, 0, 12), -11);
        Due.due("vain", desk.houseOf(0, 1), 3);
        Due.due("undo", desk.undo(), 3);
        Due.due("barred no more", desk.houseOf(0, 2), 0);
        Due.due("heard", desk.complain(0, 0, 0, 0), 1);
    }

    /** "the house is barred": whatever the mill; its complaints stand, it still votes */
    private static void aBarredHouseIsBarredFromAll() {
        MillComplaints desk = village();
        desk.mill(5, Due.yard(4, 3));
        desk.set(2, 1);
        desk.complain(0, 0, 0, 0);
        desk.complain(0, 0, 0, 12);
        desk.complain(0, 1, 0, 12);
        desk.complain(0, 1, 0, 13);
        Due.due("from the mill 0", desk.complain(0, 0, 0, 1), -11);
        Due.due("from the mill 1", desk.complain(0, 1, 0, 1), -11);
        Due.due("by shadow", desk.complain(0, 0, 1, 6), -11);
        Due.due("its complaint stands", desk.houseOf(0, 3), 1);
        Due.due("the other house is heard", desk.complain(1, 0, 0, 1), 1);
        desk.wind(0, 0, 1);
        Due.due("it votes", desk.vote(0, 0), 3);
    }

    /** "if it has as many as the setting 2 then, or more": not by fewer */
    private static void fewerPointsDoNotTie() {
        MillComplaints desk = village();
        desk.set(2, 3);
        Due.due("1 of 3", desk.complain(0, 0, 0, 0), 1);
        Due.due("2 of 3", desk.complain(1, 0, 0, 0), 2);
        Due.due("not tied", desk.millOf(0, 2), 0);
        desk.set(2, 1);
        Due.due("not tied by the setting itself", desk.millOf(0, 2), 0);
    }

    /** "as many as the setting 2 then" */
    private static void asManyPointsTie() {
        MillComplaints desk = village();
        desk.complain(0, 0, 0, 0);
        Due.due("1 of 2", desk.millOf(0, 2), 0);
        Due.due("2 of 2", desk.complain(1, 0, 0, 0), 2);
        Due.due("tied", desk.millOf(0, 2), 1);
        desk.set(2, 1);
        Due.due("1 of 1", desk.complain(0, 0, 0, 23), 1);
        Due.due("tied", desk.millOf(0, 2), 1 << 23 | 1);
    }

    /** "or more" */
    private static void morePointsTie() {
        MillComplaints desk = village();
        desk.house(Due.yard(5, 5));
        desk.set(2, 9);
        desk.complain(0, 0, 0, 0);
        desk.complain(1, 0, 0, 0);
        Due.due("not tied", desk.millOf(0, 2), 0);
        desk.set(2, 1);
        Due.due("3, which is more than 1", desk.complain(3, 0, 0, 0), 3);
        Due.due("tied", desk.millOf(0, 2), 1);
    }

    /** "2 the points that tie sails (1 to 9; 2)": 9 points, of 10 houses */
    private static void theSetting2AtItsEdges() {
        MillComplaints desk = new MillComplaints();
        desk.mill(1, Due.yard(5, 4));
        for (int house = 0; house < 10; house++) {
            desk.house(house);
        }
        desk.wind(0, 0, 9);
        desk.set(2, 9);
        for (int house = 0; house < 9; house++) {
            Due.due("not tied by " + house, desk.millOf(0, 2), 0);
            Due.due("points", desk.complain(house, 0, 0, 0), house + 1);
        }
        Due.due("tied by 9", desk.millOf(0, 2), 1);
        Due.due("the tenth house", desk.complain(9, 0, 0, 0), -13);
        Due.due("points", desk.millOf(0, 5), 9);
        desk.set(2, 1);
        Due.due("tied by 1", desk.complain(9, 0, 0, 23), -15);
        desk.set(1, 0);
        Due.due("tied by 1", desk.complain(9, 0, 0, 23), 1);
        Due.due("tied", desk.millOf(0, 2), 1 << 23 | 1);
    }

    /** "the mill has a point more in this hour" */
    private static void pointsAreOfAnHourAndAMill() {
        MillComplaints desk = village();
        desk.mill(5, Due.yard(5, 5));
        Due.due("mill 0, hour 0", desk.complain(0, 0, 0, 0), 1);
        Due.due("mill 1, hour 0", desk.complain(0, 1, 0, 0), 1);
        Due.due("mill 0, hour 1", desk.complain(0, 0, 0, 1), 1);
        Due.due("mill 1, hour 1", desk.complain(1, 1, 0, 1), 1);
        Due.due("none is tied", desk.count(8), 0);
        Due.due("mill 1, hour 0", desk.complain(1, 1, 0, 0), 2);
        Due.due("the mill 1 is tied at 0", desk.millOf(1, 2), 1);
        Due.due("the mill 0 is not", desk.millOf(0, 2), 0);
        Due.due("points of 0", desk.millOf(0, 5), 2);
        Due.due("points of 1", desk.millOf(1, 5), 3);
    }

    /** "hour: 0 to 23" */
    private static void complaintsInTheHours0And23() {
        MillComplaints desk = village();
        desk.set(2, 1);
        for (int hour = 0; hour < 24; hour++) {
            Due.due("why at " + hour, desk.why(0, 0, 0, hour), hour <= 5 || hour >= 22 ? 0 : 5);
        }
        Due.due("at 0", desk.complain(0, 0, 0, 0), 1);
        Due.due("at 23", desk.complain(0, 0, 0, 23), 1);
        Due.due("tied", desk.millOf(0, 2), 1 << 23 | 1);
        Due.due("turns", desk.millOf(0, 3), Due.hours(1, 22));
    }

    /** "Tells why a complaint would be refused.": no act, in vain or not */
    private static void whyChangesNothing() {
        MillComplaints desk = village();
        for (int round = 0; round < 4; round++) {
            Due.due("heard", desk.why(0, 0, 0, 0), 0);
            Due.due("by noise", desk.why(0, 0, 0, 12), 5);
            Due.due("no sun", desk.why(0, 0, 1, 0), 5);
            Due.due("by shadow", desk.why(0, 0, 1, 18), 6);
        }
        Due.due("no act", desk.count(10), 4);
        Due.same("nothing is changed", Told.of(desk), Told.of(village()));
    }
}
