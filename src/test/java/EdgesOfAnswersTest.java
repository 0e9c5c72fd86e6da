/** Promises 16 to 18 and 22 to 26, sentence by sentence: the edges that the document names for what is told. */
public final class EdgesOfAnswersTest {
    private static final int[] NOT_0 = {-1, 1, 4, 10, 31, 32, Integer.MIN_VALUE, Integer.MAX_VALUE};

    public static void main(String[] args) {
        noSuchMill();
        whatOfAMill();
        setsOfAllHoursAndOfNone();
        pointsOfAllHoursTogether();
        noSuchHouse();
        whatOfAHouse();
        complaintsThatStandAgainstAllMills();
        eachHouseAndMillOfAFullMapByItself();
        someMillIsEnough();
        whatIsCounted();
        eachCountByItself();
        suitsAndVotesSoFar();
        theShareIs1If0CouldBeGround();
        theShareOfNothingAndOfAll();
        theShareAsAFloat();
        noQuietHourWithoutWind();
        allHoursAreQuietWithoutHouses();
        quietWhetherTiedOrNot();
        noLoudestHouse();
        noisesAddedUp();
        ofSeveralTheLowestHouse();
        noHourToBeTied();
        theHourInWhichItTurns();
        theMostHousesAheadOfTheLeastWind();
        theLeastWindAheadOfTheLowestHour();
        ofSeveralTheLowestHour();
        Due.end();
    }

    /** A mill of height 5 at (5, 4), with a house to its west; one point ties. */
    private static MillComplaints village() {
        MillComplaints desk = new MillComplaints();
        desk.mill(5, Due.yard(5, 4));
        desk.house(Due.yard(4, 4));
        desk.set(2, 1);
        return desk;
    }

    /** "mill: a mill .. UNKNOWN" */
    private static void noSuchMill() {
        MillComplaints desk = village();
        MillComplaints empty = new MillComplaints();
        Due.due("millOf on an empty map", empty.millOf(0, 0), -1);
        Due.due("quietHours on an empty map", empty.quietHours(0), -1);
        Due.due("bestTied on an empty map", empty.bestTied(0), -1);
        Due.due("noise on an empty map", empty.noise(0, 0, 0), -1);
        Due.due("shadow on an empty map", empty.shadow(0, 0, 6, 0), -1);
        for (int mill : NOT_0) {
            for (int what = -1; what <= 6; what++) {
                Due.due("millOf(" + mill + ", " + what + ")", desk.millOf(mill, what), -1);
            }
            Due.due("noise of " + mill, desk.noise(mill, 0, 0), -1);
            Due.due("shadow of " + mill, desk.shadow(mill, 0, 6, 0), -1);
            Due.due("shadow of " + mill, desk.shadow(mill, 0, 6, 1), -1);
            Due.due("quietHours of " + mill, desk.quietHours(mill), -1);
            Due.due("bestTied of " + mill, desk.bestTied(mill), -1);
            Due.due("ifVoted of " + mill, desk.ifVoted(mill, 0), -1);
        }
    }

    /** "what: 0 .. 5 .. BAD_VALUE" */
    private static void whatOfAMill() {
        int[] bad = {-1, 6, Integer.MIN_VALUE, Integer.MAX_VALUE};
        int[] due = {5, 53, 0, Due.hours(0, 23), 72, 0};
        MillComplaints desk = village();
        for (int what : bad) {
            Due.due("millOf(0, " + what + ")", desk.millOf(0, what), -2);
        }
        for (int what = 0; what <= 5; what++) {
            Due.due("millOf(0, " + what + ")", desk.millOf(0, what), due[what]);
        }
    }

    /** "hours in which its sails are tied, as a set", "hours in which it turns, as a set": none, one, all */
    private static void setsOfAllHoursAndOfNone() {
        MillComplaints desk = village();
        desk.set(0, 0);
        desk.set(1, 0);
        for (int hour = 0; hour < 24; hour++) {
            Due.due("tied ahead of " + hour, desk.millOf(0, 2), (1 << hour) - 1);
            Due.due("turns ahead of " + hour, desk.millOf(0, 3), 16777215 - ((1 << hour) - 1));
            Due.due("troubled ahead of " + hour, desk.houseOf(0, 4), 16777215 - ((1 << hour) - 1));
            Due.due("complaint for " + hour, desk.complain(0, 0, 0, hour), 1);
        }
        Due.due("all are tied", desk.millOf(0, 2), 16777215);
        Due.due("it never turns", desk.millOf(0, 3), 0);
        Due.due("it grinds nothing", desk.millOf(0, 4), 0);
        Due.due("it troubles no house", desk.houseOf(0, 4), 0);
        Due.due("by shadow neither", desk.houseOf(0, 5), 0);
        Due.due("hours", desk.count(8), 24);
        Due.due("points", desk.millOf(0, 5), 24);
    }

    /** "points against it, of all hours together" */
    private static void pointsOfAllHoursTogether() {
        MillComplaints desk = village();
        desk.set(2, 9);
        desk.house(Due.yard(6, 4));
        desk.mill(1, 0);
        Due.due("at 0", desk.complain(0, 0, 0, 0), 1);
        Due.due("at 0", desk.complain(1, 0, 0, 0), 2);
        Due.due("at 23", desk.complain(1, 0, 0, 23), 1);
        Due.due("at 7, by shadow", desk.complain(0, 0, 1, 7), 1);
        Due.due("points", desk.millOf(0, 5), 4);
        Due.due("of the other mill", desk.millOf(1, 5), 0);
        desk.undo();
        Due.due("points, undone", desk.millOf(0, 5), 3);
    }

    /** "house: a house .. UNKNOWN" */
    private static void noSuchHouse() {
        MillComplaints desk = village();
        Due.due("houseOf on an empty map", new MillComplaints().houseOf(0, 0), -1);
        for (int house : NOT_0) {
            for (int what = -1; what <= 6; what++) {
                Due.due("houseOf(" + house + ", " + what + ")", desk.houseOf(house, what), -1);
            }
        }
    }

    /** "what: 0 .. 5 .. BAD_VALUE" */
    private static void whatOfAHouse() {
        int[] bad = {-1, 6, Integer.MIN_VALUE, Integer.MAX_VALUE};
        int[] due = {52, 0, 0, 0, Due.hours(0, 5) | Due.hours(22, 23), Due.hours(6, 9)};
        MillComplaints desk = village();
        for (int what : bad) {
            Due.due("houseOf(0, " + what + ")", desk.houseOf(0, what), -2);
        }
        for (int what = 0; what <= 5; what++) {
            Due.due("houseOf(0, " + what + ")", desk.houseOf(0, what), due[what]);
        }
    }

    /** "its complaints that stand" */
    private static void complaintsThatStandAgainstAllMills() {
        MillComplaints desk = village();
        desk.mill(5, Due.yard(4, 3));
        desk.mill(5, Due.yard(4, 5));
        desk.mill(5, Due.yard(3, 4));
        for (int mill = 0; mill < 4; mill++) {
            Due.due("standing", desk.houseOf(0, 3), 2 * mill);
            Due.due("complaint against " + mill, desk.complain(0, mill, 0, 0), 1);
            Due.due("complaint against " + mill, desk.complain(0, mill, 0, 23), 1);
        }
        Due.due("standing", desk.houseOf(0, 3), 8);
        Due.due("a refused one does not stand", desk.complain(0, 0, 0, 12), -15);
        Due.due("standing", desk.houseOf(0, 3), 8);
    }

    /** "at most 4 mills", "at most 10 houses": with all of them, each has its own complaints and points */
    private static void eachHouseAndMillOfAFullMapByItself() {
        MillComplaints desk = new MillComplaints();
        for (int mill = 0; mill < 4; mill++) {
            desk.mill(1, Due.yard(mill, 0));
        }
        for (int house = 0; house < 10; house++) {
            desk.house(Due.yard(house, 1));
        }
        desk.set(2, 9);
        desk.wind(0, 5, 9);
        for (int house = 0; house < 10; house++) {
            for (int mill = 0; mill < 4; mill++) {
                for (int hour = 0; hour < (house + mill) % 3; hour++) {
                    Due.due("why of the house " + house, desk.why(house, mill, 0, hour), 0);
                    desk.complain(house, mill, 0, hour);
                }
            }
        }
        int[] standing = {3, 4, 5, 3, 4, 5, 3, 4, 5, 3};
        for (int house = 0; house < 10; house++) {
            Due.due("standing of the house " + house, desk.houseOf(house, 3), standing[house]);
        }
        int[] points = {9, 10, 11, 9};
        for (int mill = 0; mill < 4; mill++) {
            Due.due("points of the mill " + mill, desk.millOf(mill, 5), points[mill]);
        }
        Due.due("heard", desk.count(2), 39);
    }

    /** "hours in which some mill troubles it": one by itself; noises are not added up */
    private static void someMillIsEnough() {
        MillComplaints desk = new MillComplaints();
        desk.mill(1, Due.yard(3, 4));
        desk.mill(1, Due.yard(9, 4));
        desk.house(Due.yard(6, 4));
        Due.due("3 and 3 are no more than 3", desk.houseOf(0, 4), 0);
        Due.due("at 17 of the mill 0, at 7 of the mill 1", desk.houseOf(0, 5), Due.hours(6, 7) | Due.hours(17, 18));
        desk.mill(1, Due.yard(6, 6));
        Due.due("4 is", desk.houseOf(0, 4), Due.hours(0, 5) | Due.hours(22, 23));
    }

    /** "what: 0 .. 15 .. BAD_VALUE" */
    private static void whatIsCounted() {
        int[] bad = {-1, 16, 17, Integer.MIN_VALUE, Integer.MAX_VALUE};
        int[] due = {0, 0, 0, 0, 0, 0, 0, 0, 0, 0, 0, 0, 6, 3, 2, 8};
        MillComplaints desk = new MillComplaints();
        for (int what : bad) {
            Due.due("count(" + what + ")", desk.count(what), -2);
        }
        for (int what = 0; what <= 15; what++) {
            Due.due("count(" + what + ")", desk.count(what), due[what]);
        }
    }

    /** Each act changes the counts that are its own, and no other. */
    private static void eachCountByItself() {
        MillComplaints desk = village();
        Due.type(desk, "xyz");
        desk.set(3, 2);
        dueCounts("at first", desk, new int[] {1, 1, 0, 0, 0, 0, 0, 0, 0, 72, 4, 3, 6, 3, 1, 2});
        desk.complain(0, 0, 0, 0);
        dueCounts("heard", desk, new int[] {1, 1, 1, 0, 0, 0, 0, 0, 1, 69, 4, 3, 6, 3, 1, 2});
        desk.complain(0, 0, 0, 12);
        dueCounts("refused", desk, new int[] {1, 1, 1, 1, 0, 0, 0, 0, 1, 69, 4, 3, 6, 3, 1, 2});
        desk.complain(0, 0, 0, 0);
        dueCounts("refused for 2", desk, new int[] {1, 1, 1, 1, 0, 0, 0, 0, 1, 69, 4, 3, 6, 3, 1, 2});
        desk.sue(0, 0, 0);
        dueCounts("won", desk, new int[] {1, 1, 1, 1, 1, 1, 0, 0, 0, 72, 4, 3, 6, 3, 1, 2});
        desk.complain(0, 0, 0, 1);
        desk.vote(0, 1);
        dueCounts("a vote", desk, new int[] {1, 1, 2, 1, 1, 1, 1, 0, 1, 69, 4, 3, 6, 3, 1, 2});
        desk.wind(1, 1, 1);
        dueCounts("less wind, where the sails are tied", desk, new int[] {1, 1, 2, 1, 1, 1, 1, 0, 1, 69, 4, 3, 6, 3, 1, 2});
        desk.sue(0, 0, 1);
        dueCounts("not won", desk, new int[] {1, 1, 2, 1, 2, 1, 1, 0, 1, 69, 4, 3, 6, 3, 1, 2});
        desk.vote(0, 1);
        dueCounts("untied", desk, new int[] {1, 1, 2, 1, 2, 1, 2, 1, 0, 69, 4, 3, 6, 3, 1, 2});
        desk.clearText();
        dueCounts("no text", desk, new int[] {1, 1, 2, 1, 2, 1, 2, 1, 0, 69, 4, 0, 6, 3, 1, 2});
        desk.undo();
        dueCounts("undo", desk, new int[] {1, 1, 2, 1, 2, 1, 1, 0, 1, 69, 3, 0, 6, 3, 1, 2});
    }

    private static void dueCounts(String told, MillComplaints desk, int[] due) {
        for (int what = 0; what < due.length; what++) {
            Due.due("count(" + what + "): " + told, desk.count(what), due[what]);
        }
    }

    /** "4 for suits so far, 5 for suits won, 6 for votes so far, 7 for those by which sails were untied" */
    private static void suitsAndVotesSoFar() {
        MillComplaints desk = village();
        for (int round = 1; round <= 5; round++) {
            desk.complain(0, 0, 1, 8);
            Due.due("a suit that is not won", desk.sue(0, 0, 8), 0);
            Due.due("a vote of none", desk.vote(0, 8), 0);
            desk.wind(8, 8, 1);
            Due.due("a vote of all", desk.vote(0, 8), 1);
            desk.wind(8, 8, 3);
            Due.due("suits", desk.count(4), round);
            Due.due("suits won", desk.count(5), 0);
            Due.due("votes", desk.count(6), 2 * round);
            Due.due("votes by which sails were untied", desk.count(7), round);
        }
        Due.due("heard so far", desk.count(2), 5);
    }

    /** "1.0f if that is 0" */
    private static void theShareIs1If0CouldBeGround() {
        MillComplaints desk = new MillComplaints();
        Due.dueFloat("without mills", desk.ground(), 1.0f);
        desk.house(52);
        Due.dueFloat("without mills, with a house", desk.ground(), 1.0f);
        MillComplaints calm = village();
        calm.complain(0, 0, 0, 0);
        calm.wind(0, 23, 1);
        Due.dueFloat("by the wind 1, with tied sails", calm.ground(), 1.0f);
        calm.wind(0, 23, 0);
        Due.dueFloat("by the wind 0", calm.ground(), 1.0f);
    }

    /** 0 of something is 0.0f, all of it is 1.0f. */
    private static void theShareOfNothingAndOfAll() {
        MillComplaints desk = village();
        desk.wind(1, 23, 1);
        Due.dueFloat("all", desk.ground(), 1.0f);
        desk.complain(0, 0, 0, 0);
        Due.dueFloat("nothing", desk.ground(), 0.0f);
        desk.wind(1, 1, 2);
        Due.dueFloat("2 of 5", desk.ground(), 2.0f / 5.0f);
    }

    /** "as a float, divided by .. as a float" */
    private static void theShareAsAFloat() {
        MillComplaints desk = village();
        desk.mill(1, 0);
        desk.complain(0, 0, 0, 0);
        Due.dueFloat("141 of 144", desk.ground(), 141.0f / 144.0f);
        desk.wind(12, 12, 8);
        Due.dueFloat("151 of 154", desk.ground(), 151.0f / 154.0f);
        desk.complain(0, 0, 0, 12);
        Due.dueFloat("143 of 154", desk.ground(), 143.0f / 154.0f);
    }

    /** "the hours in which a mill could turn" */
    private static void noQuietHourWithoutWind() {
        MillComplaints desk = new MillComplaints();
        desk.mill(1, 0);
        desk.wind(0, 23, 1);
        Due.due("by the wind 1", desk.quietHours(0), 0);
        desk.wind(0, 0, 2);
        desk.wind(23, 23, 2);
        Due.due("by the wind 2 at 0 and 23", desk.quietHours(0), 1 << 23 | 1);
    }

    /** "and trouble no house" */
    private static void allHoursAreQuietWithoutHouses() {
        MillComplaints desk = new MillComplaints();
        desk.mill(5, Due.yard(5, 4));
        Due.due("without houses", desk.quietHours(0), 16777215);
        desk.house(Due.yard(6, 4));
        Due.due("noise at night, shadow from 15 to 18", desk.quietHours(0), Due.hours(6, 14) | Due.hours(19, 21));
        desk.set(0, 0);
        Due.due("by day, too", desk.quietHours(0), 0);
        desk.set(0, 20);
        desk.set(1, 20);
        Due.due("by shadow alone", desk.quietHours(0), 16777215 & ~Due.hours(15, 18));
    }

    /** "whether its sails are tied or not" */
    private static void quietWhetherTiedOrNot() {
        MillComplaints desk = village();
        int quiet = Due.hours(10, 21);
        Due.due("not tied", desk.quietHours(0), quiet);
        desk.complain(0, 0, 0, 0);
        desk.complain(0, 0, 1, 9);
        Due.due("tied at 0 and 9, in which it would trouble", desk.quietHours(0), quiet);
        desk.set(1, 20);
        Due.due("tied at 0, in which it would not", desk.quietHours(0), quiet | Due.hours(0, 5) | Due.hours(22, 23));
    }

    /** "NONE without houses, or if all have 0" */
    private static void noLoudestHouse() {
        MillComplaints desk = new MillComplaints();
        Due.due("without houses and mills", desk.loudest(0), -5);
        Due.due("an unknown hour is told ahead of it", desk.loudest(24), -1);
        Due.due("an unknown hour is told ahead of it", desk.loudest(-1), -1);
        desk.house(6);
        Due.due("without mills", desk.loudest(0), -5);
        desk.mill(1, 0);
        Due.due("a noise of 0", desk.loudest(0), -5);
        desk.house(5);
        Due.due("a noise of 1", desk.loudest(0), 1);
        desk.set(1, 20);
        Due.due("borne or not", desk.loudest(0), 1);
        desk.wind(0, 0, 1);
        Due.due("without wind", desk.loudest(0), -5);
    }

    /** "the noises of all mills in an hour added up" */
    private static void noisesAddedUp() {
        MillComplaints desk = new MillComplaints();
        desk.house(Due.yard(0, 0));
        desk.house(Due.yard(6, 0));
        desk.mill(1, Due.yard(1, 0));
        Due.due("5 and 1", desk.loudest(0), 0);
        desk.mill(1, Due.yard(8, 0));
        Due.due("5 + 0 and 1 + 4", desk.loudest(0), 0);
        desk.mill(1, Due.yard(11, 0));
        Due.due("5 and 1 + 4 + 1", desk.loudest(0), 1);
        desk.wind(23, 23, 2);
        Due.due("3 and 0 + 2 + 0", desk.loudest(23), 0);
    }

    /** "of several the lowest" */
    private static void ofSeveralTheLowestHouse() {
        MillComplaints desk = new MillComplaints();
        desk.mill(1, Due.yard(5, 4));
        desk.house(Due.yard(11, 4));
        for (int house = 1; house < 9; house++) {
            desk.house(Due.yard(4 + house % 2 * 2, house - 1));
        }
        Due.due("4, 5 and 6 have 5, the others less", desk.loudest(0), 4);
        desk.house(Due.yard(5, 3));
        Due.due("as much, with a higher number", desk.loudest(0), 4);
    }

    /** "NONE if it troubles no house in any hour" */
    private static void noHourToBeTied() {
        MillComplaints desk = new MillComplaints();
        desk.mill(1, Due.yard(5, 4));
        Due.due("without houses", desk.bestTied(0), -5);
        desk.house(Due.yard(11, 7));
        Due.due("too far away", desk.bestTied(0), -5);
        desk.house(Due.yard(5, 3));
        Due.due("near", desk.bestTied(0), 0);
        desk.wind(0, 23, 1);
        Due.due("without wind", desk.bestTied(0), -5);
        desk.wind(23, 23, 9);
        Due.due("in one hour", desk.bestTied(0), 23);
        desk.set(2, 1);
        desk.complain(1, 0, 0, 23);
        Due.due("tied already", desk.bestTied(0), -5);
    }

    /** "the one in which it turns" */
    private static void theHourInWhichItTurns() {
        MillComplaints desk = village();
        for (int hour = 0; hour < 6; hour++) {
            Due.due("the next hour", desk.bestTied(0), hour);
            desk.complain(0, 0, 0, hour);
        }
        Due.due("by shadow", desk.bestTied(0), 6);
        desk.wind(6, 6, 1);
        Due.due("by shadow, and wind", desk.bestTied(0), 7);
        desk.wind(7, 9, 0);
        Due.due("at night", desk.bestTied(0), 22);
    }

    /** "and troubles the most houses, of several the one with the least wind" */
    private static void theMostHousesAheadOfTheLeastWind() {
        MillComplaints desk = village();
        desk.house(Due.yard(6, 4));
        desk.wind(6, 6, 2);
        Due.due("both at night", desk.bestTied(0), 0);
        desk.wind(22, 22, 9);
        desk.wind(0, 5, 9);
        Due.due("both at 23, with less wind", desk.bestTied(0), 23);
        desk.wind(23, 23, 1);
        Due.due("both at 0, with much wind; one at 6, with little", desk.bestTied(0), 0);
        desk.set(1, 20);
        Due.due("one at 6", desk.bestTied(0), 6);
    }

    /** "of several the one with the least wind" */
    private static void theLeastWindAheadOfTheLowestHour() {
        MillComplaints desk = village();
        desk.wind(5, 5, 2);
        desk.set(1, 0);
        Due.due("the wind 2", desk.bestTied(0), 5);
        desk.wind(23, 23, 2);
        Due.due("the wind 2, and the lowest", desk.bestTied(0), 5);
        desk.wind(5, 5, 4);
        Due.due("the wind 2", desk.bestTied(0), 23);
        desk.wind(9, 9, 2);
        Due.due("by shadow as well as by noise", desk.bestTied(0), 9);
    }

    /** "of several the lowest" */
    private static void ofSeveralTheLowestHour() {
        MillComplaints desk = village();
        for (int wind = 9; wind >= 4; wind--) {
            desk.wind(0, 23, wind);
            Due.due("all alike by the wind " + wind, desk.bestTied(0), 0);
        }
        desk.wind(0, 0, 5);
        Due.due("all but 0", desk.bestTied(0), 1);
        desk.wind(0, 22, 5);
        Due.due("23 alone", desk.bestTied(0), 23);
    }
}
