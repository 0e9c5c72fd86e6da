/** Promises 1 to 5 and 16, sentence by sentence: the edges that the document names for the map, winds and settings. */
public final class EdgesOfTheMapTest {
    private static final int[] NO_YARDS = {-1, 96, -12, 107, 108, Integer.MIN_VALUE, Integer.MAX_VALUE};
    private static final int[] NO_HOURS = {-1, 24, -24, 48, Integer.MIN_VALUE, Integer.MAX_VALUE};

    public static void main(String[] args) {
        theMapHas96Yards();
        noSuchYard();
        aMillAHouseOrNothing();
        atMostFourMills();
        heightsAre1To5();
        atMostTenHouses();
        aDayHas24Hours();
        theWindIs3AtFirst();
        windsAre0To9();
        toIsFromOnward();
        windTellsHowManyHadAnother();
        sailsAreNotTiedAtFirst();
        aMillTurnsFromTheWind2On();
        itGrindsAsMuchAsTheWindTells();
        rangesOfSettings();
        settingsThatAreSoAlready();
        sailsStayTiedIfASettingChanges();
        whatOfAYard();
        Due.end();
    }

    /** "The map has 96 yards; the yard 12 * y + x has x 0 to 11 (to the east) and y 0 to 7 (to the south)." */
    private static void theMapHas96Yards() {
        for (int yard = 0; yard < 96; yard++) {
            MillComplaints mills = new MillComplaints();
            Due.due("mill(1, " + yard + ")", mills.mill(1, yard), 0);
            Due.due("the mill in " + yard, mills.yardOf(yard, 0), 0);
            Due.due("its yard", mills.millOf(0, 1), yard);
            MillComplaints houses = new MillComplaints();
            Due.due("house(" + yard + ")", houses.house(yard), 0);
            Due.due("the house in " + yard, houses.yardOf(yard, 1), 0);
            Due.due("its yard", houses.houseOf(0, 0), yard);
            MillComplaints texts = new MillComplaints();
            Due.type(texts, "h@" + (char) ('a' + yard % 12) + (char) ('0' + yard / 12));
            Due.due("doAll with the house in " + yard, texts.doAll(), 1);
            Due.due("its yard", texts.houseOf(0, 0), yard);
        }
    }

    /** "UNKNOWN: There is no such yard" */
    private static void noSuchYard() {
        MillComplaints desk = new MillComplaints();
        desk.mill(1, 0);
        for (int yard : NO_YARDS) {
            Due.due("mill(1, " + yard + ")", desk.mill(1, yard), -1);
            Due.due("house(" + yard + ")", desk.house(yard), -1);
            Due.due("yardOf(" + yard + ", 0)", desk.yardOf(yard, 0), -1);
            Due.due("yardOf(" + yard + ", 1)", desk.yardOf(yard, 1), -1);
            Due.due("noise(0, " + yard + ", 0)", desk.noise(0, yard, 0), -1);
            Due.due("shadow(0, " + yard + ", 6, 0)", desk.shadow(0, yard, 6, 0), -1);
            Due.due("shadow(0, " + yard + ", 6, 1)", desk.shadow(0, yard, 6, 1), -1);
        }
        Due.due("nothing came", desk.count(10), 1);
    }

    /** "In a yard there is a mill, a house, or nothing." */
    private static void aMillAHouseOrNothing() {
        MillComplaints desk = new MillComplaints();
        desk.mill(1, 0);
        desk.house(95);
        Due.due("a mill on a mill", desk.mill(2, 0), -4);
        Due.due("a house on a mill", desk.house(0), -4);
        Due.due("a mill on a house", desk.mill(2, 95), -4);
        Due.due("a house on a house", desk.house(95), -4);
        Due.due("height of the mill", desk.millOf(0, 0), 1);
        Due.due("no house by the mill", desk.yardOf(0, 1), -5);
        Due.due("no mill by the house", desk.yardOf(95, 0), -5);
        Due.due("nothing: no mill", desk.yardOf(1, 0), -5);
        Due.due("nothing: no house", desk.yardOf(1, 1), -5);
        desk.undo();
        Due.due("the yard of a house that is undone is free", desk.mill(1, 95), 1);
    }

    /** "There are at most 4 mills, numbered from 0" */
    private static void atMostFourMills() {
        MillComplaints desk = new MillComplaints();
        for (int mill = 0; mill < 4; mill++) {
            Due.due("no mill " + mill + " so far", desk.millOf(mill, 0), -1);
            Due.due("mill " + mill, desk.mill(5 - mill, 95 - mill), mill);
            Due.due("height of the mill " + mill, desk.millOf(mill, 0), 5 - mill);
        }
        Due.due("a fifth mill", desk.mill(1, 0), -3);
        Due.due("mills", desk.count(0), 4);
        Due.due("nothing came", desk.yardOf(0, 0), -5);
        Due.due("no mill 4", desk.millOf(4, 0), -1);
        desk.undo();
        Due.due("there is room again", desk.mill(1, 0), 3);
        Due.due("houses have room of their own", desk.house(1), 0);
    }

    /** "each with a height, 1 to 5" */
    private static void heightsAre1To5() {
        int[] bad = {0, 6, -1, -5, Integer.MIN_VALUE, Integer.MAX_VALUE};
        MillComplaints desk = new MillComplaints();
        for (int height : bad) {
            Due.due("mill(" + height + ", 0)", desk.mill(height, 0), -2);
        }
        Due.due("no mill came", desk.count(0), 0);
        for (int height = 1; height <= 5; height++) {
            MillComplaints other = new MillComplaints();
            Due.due("mill(" + height + ", 0)", other.mill(height, 0), 0);
            Due.due("its height", other.millOf(0, 0), height);
        }
    }

    /** "and at most 10 houses, numbered from 0" */
    private static void atMostTenHouses() {
        MillComplaints desk = new MillComplaints();
        for (int house = 0; house < 10; house++) {
            Due.due("no house " + house + " so far", desk.houseOf(house, 0), -1);
            Due.due("house " + house, desk.house(95 - house), house);
            Due.due("yard of the house " + house, desk.houseOf(house, 0), 95 - house);
        }
        Due.due("an eleventh house", desk.house(0), -3);
        Due.due("houses", desk.count(1), 10);
        Due.due("nothing came", desk.yardOf(0, 1), -5);
        Due.due("no house 10", desk.houseOf(10, 0), -1);
        desk.undo();
        Due.due("there is room again", desk.house(0), 9);
        Due.due("mills have room of their own", desk.mill(1, 1), 0);
    }

    /** "A day has 24 hours, 0 to 23." */
    private static void aDayHas24Hours() {
        MillComplaints desk = new MillComplaints();
        desk.mill(1, 0);
        desk.house(1);
        for (int hour : NO_HOURS) {
            Due.due("wind(" + hour + ", 23, 4)", desk.wind(hour, 23, 4), -1);
            Due.due("wind(0, " + hour + ", 4)", desk.wind(0, hour, 4), -1);
            Due.due("wind of " + hour, desk.wind(hour, hour, 4), -1);
            Due.due("complaint for " + hour, desk.complain(0, 0, 0, hour), -1);
            Due.due("suit for " + hour, desk.sue(0, 0, hour), -1);
            Due.due("vote on " + hour, desk.vote(0, hour), -1);
            Due.due("noise at " + hour, desk.noise(0, 1, hour), -1);
            Due.due("shadow at " + hour, desk.shadow(0, 1, hour, 0), -1);
            Due.due("why at " + hour, desk.why(0, 0, 0, hour), -1);
            Due.due("loudest at " + hour, desk.loudest(hour), -1);
            Due.due("ifVoted at " + hour, desk.ifVoted(0, hour), -1);
        }
        Due.due("no act", desk.count(10), 2);
        for (int hour = 0; hour < 24; hour++) {
            Due.due("noise at " + hour, desk.noise(0, 1, hour), 5);
            Due.due("loudest at " + hour, desk.loudest(hour), 0);
            Due.due("wind of " + hour, desk.wind(hour, hour, 4), 1);
        }
    }

    /** "Each hour has a wind, 0 to 9 (3 at first)." */
    private static void theWindIs3AtFirst() {
        MillComplaints desk = new MillComplaints();
        Due.due("all have the wind 3", desk.wind(0, 23, 3), -5);
        Due.due("none has another", desk.count(10), 0);
        desk.mill(1, 0);
        for (int hour = 0; hour < 24; hour++) {
            Due.due("noise at the mill, at " + hour, desk.noise(0, 0, hour), 6);
        }
    }

    /** "wind: 0 to 9" */
    private static void windsAre0To9() {
        MillComplaints desk = new MillComplaints();
        int[] bad = {-1, 10, Integer.MIN_VALUE, Integer.MAX_VALUE};
        for (int wind : bad) {
            Due.due("wind(0, 0, " + wind + ")", desk.wind(0, 0, wind), -2);
            Due.due("wind(23, 23, " + wind + ")", desk.wind(23, 23, wind), -2);
            Due.due("the hours are looked at first", desk.wind(24, 24, wind), -1);
            Due.due("the hours are looked at first", desk.wind(1, 0, wind), -1);
        }
        Due.due("nothing was told", desk.wind(0, 23, 3), -5);
        for (int wind = 0; wind <= 9; wind++) {
            Due.due("wind(0, 0, " + wind + ")", desk.wind(0, 0, wind), 1);
            Due.due("it is so then", desk.wind(0, 0, wind), -5);
        }
    }

    /** "to: from to 23" */
    private static void toIsFromOnward() {
        MillComplaints desk = new MillComplaints();
        for (int from = 1; from < 24; from++) {
            Due.due("to is an hour too early: " + from, desk.wind(from, from - 1, 4), -1);
            Due.due("the hours do not go round midnight: " + from, desk.wind(from, 0, 4), -1);
            Due.due("to is from: " + from, desk.wind(from, from, 4), 1);
        }
        Due.due("the hour 0 has its wind", desk.wind(0, 0, 3), -5);
        Due.due("the whole day", desk.wind(0, 23, 5), 24);
    }

    /** "Returns how many of them had another wind; .. NONE if none had." */
    private static void windTellsHowManyHadAnother() {
        MillComplaints desk = new MillComplaints();
        Due.due("6 to 8", desk.wind(6, 8, 4), 3);
        Due.due("all but three", desk.wind(0, 23, 4), 21);
        Due.due("none", desk.wind(0, 23, 4), -5);
        Due.due("one of two", desk.wind(23, 23, 5), 1);
        Due.due("one of two", desk.wind(22, 23, 5), 1);
        Due.due("NONE records nothing", desk.count(10), 4);
        Due.due("undo", desk.undo(), 3);
        Due.due("22 has 4, 23 has 5", desk.wind(22, 22, 4), -5);
        Due.due("22 has 4, 23 has 5", desk.wind(23, 23, 5), -5);
    }

    /** "The sails of a mill are tied or not in each hour (not at first)." */
    private static void sailsAreNotTiedAtFirst() {
        MillComplaints desk = new MillComplaints();
        desk.house(1);
        desk.set(2, 1);
        desk.keep();
        Due.due("mill", desk.mill(1, 0), 0);
        Due.due("none is tied", desk.millOf(0, 2), 0);
        Due.due("all turn", desk.millOf(0, 3), Due.hours(0, 23));
        Due.due("tied", desk.complain(0, 0, 0, 0), 1);
        Due.due("another mill", desk.mill(1, 2), 1);
        Due.due("none of its sails is tied", desk.millOf(1, 2), 0);
        desk.restore();
        Due.due("a mill in the place of the one that is gone", desk.mill(1, 0), 0);
        Due.due("none of its sails is tied", desk.millOf(0, 2), 0);
        Due.due("no points", desk.millOf(0, 5), 0);
        Due.due("no complaint stands", desk.houseOf(0, 3), 0);
    }

    /** "A mill turns in an hour if its sails are not tied then, and the wind is 2 or more" */
    private static void aMillTurnsFromTheWind2On() {
        MillComplaints desk = new MillComplaints();
        desk.mill(1, 0);
        desk.house(1);
        for (int wind = 0; wind <= 9; wind++) {
            desk.wind(0, 0, wind);
            Due.due("turns at 0 by the wind " + wind, desk.millOf(0, 3) & 1, wind >= 2 ? 1 : 0);
            desk.wind(23, 23, wind);
            Due.due("turns at 23 by the wind " + wind, desk.millOf(0, 3) >> 23, wind >= 2 ? 1 : 0);
        }
        desk.set(2, 1);
        desk.complain(0, 0, 0, 0);
        desk.complain(0, 0, 0, 23);
        Due.due("not with tied sails, whatever the wind", desk.millOf(0, 3), Due.hours(1, 22));
    }

    /** "it grinds as much grain as the wind tells then" */
    private static void itGrindsAsMuchAsTheWindTells() {
        int[] grain = {0, 0, 48, 72, 96, 120, 144, 168, 192, 216};
        MillComplaints desk = new MillComplaints();
        desk.mill(1, 0);
        for (int wind = 0; wind <= 9; wind++) {
            desk.wind(0, 23, wind);
            Due.due("grain by the wind " + wind, desk.millOf(0, 4), grain[wind]);
        }
        desk.mill(1, 1);
        desk.mill(1, 2);
        desk.mill(1, 3);
        Due.due("the most grain", desk.count(9), 864);
        desk.wind(1, 23, 1);
        desk.wind(0, 0, 2);
        Due.due("the least grain", desk.count(9), 8);
    }

    /** "The settings are (in parentheses: range; first value): 0 .. (0 to 20; 6), 1 .. (0 to 20; 3), 2 .. (1 to 9; 2), 3 .. (0 to 99; 8)" */
    private static void rangesOfSettings() {
        int[][] rows = {{0, 0, 20, 6}, {1, 0, 20, 3}, {2, 1, 9, 2}, {3, 0, 99, 8}};
        for (int[] row : rows) {
            MillComplaints desk = new MillComplaints();
            Due.due("first value of " + row[0], desk.count(12 + row[0]), row[3]);
            for (int value = -3; value <= 103; value++) {
                int previous = desk.count(12 + row[0]);
                boolean isIn = value >= row[1] && value <= row[2];
                int due = !isIn ? -2 : previous == value ? -5 : previous;
                Due.due("set(" + row[0] + ", " + value + ")", desk.set(row[0], value), due);
            }
            Due.due("the greatest value of " + row[0], desk.count(12 + row[0]), row[2]);
            Due.due("set(.., MIN)", desk.set(row[0], Integer.MIN_VALUE), -2);
            Due.due("set(.., MAX)", desk.set(row[0], Integer.MAX_VALUE), -2);
        }
        int[] bad = {-1, 4, Integer.MIN_VALUE, Integer.MAX_VALUE};
        for (int which : bad) {
            MillComplaints desk = new MillComplaints();
            for (int value = 0; value <= 9; value++) {
                Due.due("set(" + which + ", " + value + ")", desk.set(which, value), -2);
            }
            Due.due("no act", desk.count(10), 0);
        }
    }

    /** "NONE if it is so already" */
    private static void settingsThatAreSoAlready() {
        int[] first = {6, 3, 2, 8};
        MillComplaints desk = new MillComplaints();
        for (int which = 0; which < 4; which++) {
            Due.due("set(" + which + ", its first value)", desk.set(which, first[which]), -5);
            Due.due("no act", desk.count(10), which);
            Due.due("set(" + which + ", 1)", desk.set(which, 1), first[which]);
            Due.due("an act", desk.count(10), which + 1);
        }
        Due.due("a previous value of 0", desk.set(0, 0), 1);
        Due.due("is told, and is no error", desk.set(0, 7), 0);
        Due.due("recorded", desk.undo(), 3);
        Due.due("the previous one again", desk.count(12), 0);
    }

    /** "Sets a setting; sails that are tied stay so." */
    private static void sailsStayTiedIfASettingChanges() {
        MillComplaints desk = new MillComplaints();
        desk.mill(1, 0);
        desk.house(1);
        desk.house(2);
        desk.complain(0, 0, 0, 0);
        desk.complain(1, 0, 0, 0);
        desk.complain(0, 0, 0, 1);
        desk.set(2, 9);
        Due.due("2 points, 9 would tie", desk.millOf(0, 2), 1);
        desk.set(0, 20);
        desk.set(1, 20);
        Due.due("troubled no more", desk.millOf(0, 2), 1);
        desk.set(3, 0);
        Due.due("a smaller loss", desk.millOf(0, 2), 1);
        desk.set(2, 1);
        Due.due("1 point at 1 would tie, but is not told anew", desk.millOf(0, 2), 1);
        desk.wind(0, 23, 0);
        Due.due("nor does the wind untie", desk.millOf(0, 2), 1);
    }

    /** "what: 0 for the mill there, 1 for the house there (NONE without one)" */
    private static void whatOfAYard() {
        int[] bad = {-1, 2, Integer.MIN_VALUE, Integer.MAX_VALUE};
        MillComplaints desk = new MillComplaints();
        desk.house(0);
        desk.mill(1, 95);
        for (int what : bad) {
            Due.due("yardOf(0, " + what + ")", desk.yardOf(0, what), -2);
            Due.due("yardOf(95, " + what + ")", desk.yardOf(95, what), -2);
            Due.due("yardOf(1, " + what + "): a bad value is told ahead of NONE", desk.yardOf(1, what), -2);
            Due.due("yardOf(96, " + what + "): the yard is looked at first", desk.yardOf(96, what), -1);
        }
        Due.due("no mill there", desk.yardOf(0, 0), -5);
        Due.due("no house there", desk.yardOf(95, 1), -5);
        Due.due("the house", desk.yardOf(0, 1), 0);
        Due.due("the mill", desk.yardOf(95, 0), 0);
    }
}
