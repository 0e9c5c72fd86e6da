/** Promises 18 to 20, sentence by sentence: the edges that the document names for noise, night, sun and shadows. */
public final class EdgesOfNoiseAndShadowsTest {
    public static void main(String[] args) {
        theDistanceIsTheGreaterOne();
        noiseIsTwiceTheWindLessTheDistance();
        noiseIsNotBelow0();
        noNoiseInAnHourInWhichItDoesNotTurn();
        troubledIfTheNoiseIsMoreThanWhatIsBorne();
        theMostAndTheLeastThatIsBorne();
        nightIsFrom22To5();
        thereIsSunFrom6To18();
        waysOfTheShadow();
        lengthsOfTheShadow();
        noShadowAt12();
        asFarAsTheMapGoes();
        notRoundTheMap();
        theShadowPassesOver();
        theShadowBeginsBehindTheMill();
        troubledByTheShadowIfTheMillTurns();
        theShadowLiesWhetherTheMillTurnsOrNot();
        waysOfTelling();
        Due.end();
    }

    private static MillComplaints withMill(int height, int x, int y) {
        MillComplaints desk = new MillComplaints();
        desk.mill(height, Due.yard(x, y));
        return desk;
    }

    /** The yard of (x, y) lies in the shadow, told in both ways. */
    private static void dueShadow(MillComplaints desk, int hour, int x, int y, int want) {
        String call = "shadow on (" + x + ", " + y + ") at " + hour;
        Due.due(call + ", walking", desk.shadow(0, Due.yard(x, y), hour, 0), want);
        Due.due(call + ", by where it lies", desk.shadow(0, Due.yard(x, y), hour, 1), want);
    }

    /** "The distance of two yards is the greater one of how far they are apart to the east or west and to the south or north." */
    private static void theDistanceIsTheGreaterOne() {
        int[][] mills = {{0, 0}, {11, 7}, {11, 0}, {0, 7}, {6, 3}};
        for (int[] mill : mills) {
            MillComplaints desk = withMill(1, mill[0], mill[1]);
            desk.wind(12, 12, 9);
            for (int yard = 0; yard < 96; yard++) {
                int eastOrWest = yard % 12 > mill[0] ? yard % 12 - mill[0] : mill[0] - yard % 12;
                int southOrNorth = yard / 12 > mill[1] ? yard / 12 - mill[1] : mill[1] - yard / 12;
                int distance = eastOrWest > southOrNorth ? eastOrWest : southOrNorth;
                Due.due("noise in " + yard + " of the mill in (" + mill[0] + ", " + mill[1] + ")",
                    desk.noise(0, yard, 12), 18 - distance);
            }
        }
        MillComplaints desk = withMill(1, 11, 0);
        desk.wind(12, 12, 9);
        Due.due("the yard 12 lies not beside the yard 11", desk.noise(0, 12, 12), 7);
        Due.due("the yard 10 does", desk.noise(0, 10, 12), 17);
    }

    /** "The noise .. is twice the wind, less the distance" */
    private static void noiseIsTwiceTheWindLessTheDistance() {
        MillComplaints desk = withMill(5, 3, 3);
        for (int wind = 2; wind <= 9; wind++) {
            desk.wind(0, 23, wind);
            Due.due("at the mill, wind " + wind, desk.noise(0, Due.yard(3, 3), 0), 2 * wind);
            Due.due("beside it, wind " + wind, desk.noise(0, Due.yard(4, 4), 23), 2 * wind - 1);
            Due.due("4 yards away, wind " + wind, desk.noise(0, Due.yard(7, 3), 12), 2 * wind - 4);
        }
    }

    /** "0 if that is below 0" */
    private static void noiseIsNotBelow0() {
        MillComplaints desk = withMill(1, 0, 0);
        desk.wind(0, 0, 2);
        int[] due = {4, 3, 2, 1, 0, 0, 0, 0, 0, 0, 0, 0};
        for (int x = 0; x < 12; x++) {
            Due.due("noise by the wind 2, " + x + " yards away", desk.noise(0, x, 0), due[x]);
        }
        Due.due("11 yards away by the wind 5", desk.wind(0, 0, 5), 1);
        Due.due("is below 0", desk.noise(0, 11, 0), 0);
        Due.due("10 yards away", desk.noise(0, 10, 0), 0);
        Due.due("9 yards away", desk.noise(0, 9, 0), 1);
        desk.wind(0, 0, 6);
        Due.due("11 yards away by the wind 6", desk.noise(0, 11, 0), 1);
    }

    /** "in an hour in which it turns" */
    private static void noNoiseInAnHourInWhichItDoesNotTurn() {
        MillComplaints desk = withMill(1, 0, 0);
        desk.house(1);
        desk.wind(1, 1, 1);
        desk.wind(2, 2, 0);
        Due.due("by the wind 1", desk.noise(0, 0, 1), 0);
        Due.due("by the wind 0", desk.noise(0, 0, 2), 0);
        Due.due("by the wind 3", desk.noise(0, 0, 3), 6);
        desk.set(2, 1);
        desk.complain(0, 0, 0, 3);
        Due.due("with tied sails", desk.noise(0, 0, 3), 0);
        Due.due("in the hour after", desk.noise(0, 0, 4), 6);
    }

    /** "A house is troubled by noise if it is more than what is borne in this hour." */
    private static void troubledIfTheNoiseIsMoreThanWhatIsBorne() {
        MillComplaints desk = withMill(1, 0, 0);
        desk.house(3);
        for (int borne = 0; borne <= 6; borne++) {
            desk.set(0, borne);
            desk.set(1, borne);
            int due = borne < 3 ? Due.hours(0, 23) : 0;
            Due.due("a noise of 3, borne is " + borne, desk.houseOf(0, 4), due);
            Due.due("why by day", desk.why(0, 0, 0, 12), borne < 3 ? 0 : 5);
            Due.due("why at night", desk.why(0, 0, 0, 0), borne < 3 ? 0 : 5);
        }
    }

    /** "the noise that is borne by day (0 to 20; 6), that by night (0 to 20; 3)": from 0 on; 20 is more than any noise */
    private static void theMostAndTheLeastThatIsBorne() {
        MillComplaints desk = withMill(1, 0, 0);
        desk.house(1);
        desk.house(6);
        desk.house(5);
        desk.set(0, 20);
        desk.set(1, 0);
        desk.wind(12, 12, 9);
        Due.due("a noise of 0 is borne, if 0 is", desk.why(1, 0, 0, 0), 5);
        Due.due("a noise of 1 is not", desk.why(2, 0, 0, 0), 0);
        Due.due("the loudest house has 17", desk.noise(0, 1, 12), 17);
        Due.due("20 is more", desk.why(0, 0, 0, 12), 5);
        desk.set(0, 17);
        Due.due("17 is as much", desk.why(0, 0, 0, 12), 5);
        desk.set(0, 16);
        Due.due("16 is less", desk.why(0, 0, 0, 12), 0);
    }

    /** "Night is from the hour 22 to the hour 5." */
    private static void nightIsFrom22To5() {
        MillComplaints desk = withMill(1, 0, 0);
        desk.house(24);
        Due.due("4 is more than 3, and not than 6", desk.houseOf(0, 4), Due.hours(0, 5) | Due.hours(22, 23));
        int[][] rows = {{20, 5}, {21, 5}, {22, 0}, {23, 0}, {0, 0}, {4, 0}, {5, 0}, {6, 5}, {7, 5}, {12, 5}};
        for (int[] row : rows) {
            Due.due("why at " + row[0], desk.why(0, 0, 0, row[0]), row[1]);
        }
        desk.set(1, 20);
        Due.due("the night's setting is the night's", desk.houseOf(0, 4), 0);
        desk.set(0, 3);
        Due.due("the day's setting is the day's", desk.houseOf(0, 4), Due.hours(6, 21));
    }

    /** "By day there is sun from the hour 6 to the hour 18." */
    private static void thereIsSunFrom6To18() {
        MillComplaints desk = withMill(5, 6, 7);
        desk.house(Due.yard(5, 7));
        desk.house(Due.yard(7, 7));
        int[][] rows = {{0, 5, 5}, {4, 5, 5}, {5, 5, 5}, {6, 0, 6}, {7, 0, 6}, {12, 6, 6}, {17, 6, 0}, {18, 6, 0},
            {19, 5, 5}, {20, 5, 5}, {23, 5, 5}};
        for (int[] row : rows) {
            Due.due("why in the west at " + row[0], desk.why(0, 0, 1, row[0]), row[1]);
            Due.due("why in the east at " + row[0], desk.why(1, 0, 1, row[0]), row[2]);
            dueShadow(desk, row[0], 5, 7, row[1] == 0 ? 1 : 0);
            dueShadow(desk, row[0], 7, 7, row[2] == 0 ? 1 : 0);
        }
        Due.due("hours in the west", desk.houseOf(0, 5), Due.hours(6, 9));
        Due.due("hours in the east", desk.houseOf(1, 5), Due.hours(15, 18));
    }

    /** "to the west if h is 6 to 9, to the north-west if h is 10 or 11, to the north if h is 12, to the north-east if h is 13 or 14, to the east if h is 15 to 18" */
    private static void waysOfTheShadow() {
        int[][] ways = {{-1, 0, 6, 9}, {-1, -1, 10, 11}, {0, -1, 1, 0}, {1, -1, 13, 14}, {1, 0, 15, 18}, {1, 1, 1, 0},
            {0, 1, 1, 0}, {-1, 1, 1, 0}, {0, 0, 1, 0}};
        for (int[] way : ways) {
            for (int hour = 0; hour < 24; hour++) {
                MillComplaints desk = withMill(5, 6, 4);
                dueShadow(desk, hour, 6 + way[0], 4 + way[1], hour >= way[2] && hour <= way[3] ? 1 : 0);
            }
        }
    }

    /** "as long as (the height times the number of hours by which h differs from 12) and 1 more, all of it divided by 2, rounded down" */
    private static void lengthsOfTheShadow() {
        int[][] rows = {{1, 18, 3}, {1, 17, 3}, {1, 16, 2}, {1, 15, 2}, {2, 18, 6}, {2, 17, 5}, {2, 16, 4}, {2, 15, 3},
            {3, 18, 9}, {3, 17, 8}, {3, 16, 6}, {3, 15, 5}, {4, 17, 10}, {4, 16, 8}, {4, 15, 6}, {5, 16, 10}, {5, 15, 8}};
        for (int[] row : rows) {
            MillComplaints desk = withMill(row[0], 0, 0);
            dueShadow(desk, row[1], row[2], 0, 1);
            dueShadow(desk, row[1], row[2] + 1, 0, 0);
            MillComplaints other = withMill(row[0], 11, 0);
            dueShadow(other, 24 - row[1], 11 - row[2], 0, 1);
            dueShadow(other, 24 - row[1], 10 - row[2], 0, 0);
        }
        int[][] slanted = {{1, 13, 1}, {1, 14, 1}, {2, 13, 1}, {2, 14, 2}, {3, 13, 2}, {3, 14, 3}, {4, 13, 2}, {4, 14, 4},
            {5, 13, 3}, {5, 14, 5}};
        for (int[] row : slanted) {
            MillComplaints desk = withMill(row[0], 5, 7);
            dueShadow(desk, row[1], 5 + row[2], 7 - row[2], 1);
            dueShadow(desk, row[1], 6 + row[2], 6 - row[2], 0);
            MillComplaints other = withMill(row[0], 6, 7);
            dueShadow(other, 24 - row[1], 6 - row[2], 7 - row[2], 1);
            dueShadow(other, 24 - row[1], 5 - row[2], 6 - row[2], 0);
        }
    }

    /** "(so there is none at 12)" */
    private static void noShadowAt12() {
        for (int height = 1; height <= 5; height++) {
            MillComplaints desk = withMill(height, 6, 4);
            for (int yard = 0; yard < 96; yard++) {
                dueShadow(desk, 12, yard % 12, yard / 12, 0);
            }
        }
        MillComplaints desk = withMill(5, 6, 4);
        desk.house(Due.yard(6, 3));
        Due.due("there is sun, but no shadow", desk.why(0, 0, 1, 12), 6);
    }

    /** "so many yards from the mill's yard on in that direction, as far as the map goes" */
    private static void asFarAsTheMapGoes() {
        int[][] rows = {{6, 11, 0, 0, 0, 5}, {18, 0, 7, 11, 7, 5}, {10, 3, 3, 0, 0, 5}, {10, 11, 2, 9, 0, 5}, {14, 8, 3, 11, 0, 5},
            {14, 0, 2, 2, 0, 5}, {14, 10, 7, 11, 6, 5}, {10, 1, 7, 0, 6, 5}};
        for (int[] row : rows) {
            MillComplaints desk = withMill(row[5], row[1], row[2]);
            dueShadow(desk, row[0], row[3], row[4], 1);
        }
        int[][] corners = {{0, 0, 6}, {0, 0, 10}, {0, 0, 14}, {11, 0, 18}, {11, 0, 14}, {11, 0, 10}, {0, 7, 6}, {0, 7, 10},
            {11, 7, 18}, {11, 7, 14}};
        for (int[] corner : corners) {
            MillComplaints desk = withMill(5, corner[0], corner[1]);
            for (int yard = 0; yard < 96; yard++) {
                dueShadow(desk, corner[2], yard % 12, yard / 12, 0);
            }
        }
    }

    /** The shadow ends at the edge of the map, and does not come in again on the other side, a row higher or lower. */
    private static void notRoundTheMap() {
        MillComplaints west = withMill(5, 2, 4);
        dueShadow(west, 6, 0, 4, 1);
        dueShadow(west, 6, 11, 3, 0);
        dueShadow(west, 6, 11, 4, 0);
        dueShadow(west, 10, 0, 2, 1);
        dueShadow(west, 10, 11, 0, 0);
        dueShadow(west, 10, 11, 1, 0);
        MillComplaints east = withMill(5, 9, 4);
        dueShadow(east, 18, 11, 4, 1);
        dueShadow(east, 18, 0, 4, 0);
        dueShadow(east, 18, 0, 5, 0);
        dueShadow(east, 14, 11, 2, 1);
        dueShadow(east, 14, 0, 2, 0);
        dueShadow(east, 14, 0, 1, 0);
        MillComplaints north = withMill(5, 5, 1);
        dueShadow(north, 14, 6, 0, 1);
        dueShadow(north, 14, 7, 7, 0);
        dueShadow(north, 10, 4, 0, 1);
        dueShadow(north, 10, 3, 7, 0);
    }

    /** "(the shadow passes over a house, and over another mill)" */
    private static void theShadowPassesOver() {
        MillComplaints desk = withMill(5, 0, 3);
        desk.house(Due.yard(1, 3));
        desk.mill(1, Due.yard(2, 3));
        desk.house(Due.yard(3, 3));
        dueShadow(desk, 16, 1, 3, 1);
        dueShadow(desk, 16, 2, 3, 1);
        dueShadow(desk, 16, 3, 3, 1);
        dueShadow(desk, 16, 10, 3, 1);
        Due.due("the house in front", desk.why(0, 0, 1, 16), 0);
        Due.due("the house behind a house and a mill", desk.why(1, 0, 1, 16), 0);
    }

    /** "from the mill's yard on": the mill's own yard is not in the shadow */
    private static void theShadowBeginsBehindTheMill() {
        MillComplaints desk = withMill(5, 6, 4);
        for (int hour = 0; hour < 24; hour++) {
            dueShadow(desk, hour, 6, 4, 0);
        }
    }

    /** "A house in one of these yards is troubled by the shadow if the mill turns" */
    private static void troubledByTheShadowIfTheMillTurns() {
        MillComplaints desk = withMill(1, 6, 4);
        desk.house(Due.yard(5, 4));
        desk.wind(6, 6, 2);
        desk.wind(7, 7, 1);
        desk.wind(8, 8, 0);
        Due.due("by the winds 2, 1, 0 and 3", desk.houseOf(0, 5), 1 << 6 | 1 << 9);
        desk.set(2, 1);
        Due.due("heard", desk.complain(0, 0, 1, 9), 1);
        Due.due("not with tied sails", desk.houseOf(0, 5), 1 << 6);
    }

    /** "Tells whether the shadow of a mill lies on a yard, whether the mill turns or not." */
    private static void theShadowLiesWhetherTheMillTurnsOrNot() {
        MillComplaints desk = withMill(1, 6, 4);
        desk.house(Due.yard(5, 4));
        desk.set(2, 1);
        desk.complain(0, 0, 1, 9);
        dueShadow(desk, 9, 5, 4, 1);
        for (int wind = 0; wind <= 9; wind++) {
            desk.wind(6, 18, wind);
            dueShadow(desk, 6, 3, 4, 1);
            dueShadow(desk, 6, 2, 4, 0);
        }
    }

    /** "way: 0: told by walking from the mill, yard by yard; 1: told by where the yard lies from the mill (the same)" */
    private static void waysOfTelling() {
        MillComplaints desk = withMill(5, 6, 4);
        int[] bad = {-1, 2, 3, Integer.MIN_VALUE, Integer.MAX_VALUE};
        for (int way : bad) {
            Due.due("shadow(0, 53, 6, " + way + ")", desk.shadow(0, 53, 6, way), -2);
            Due.due("without sun", desk.shadow(0, 53, 0, way), -2);
            Due.due("the mill is looked at first", desk.shadow(1, 53, 6, way), -1);
            Due.due("the yard is looked at first", desk.shadow(0, 96, 6, way), -1);
            Due.due("the hour is looked at first", desk.shadow(0, 53, 24, way), -1);
        }
        for (int hour = 6; hour <= 18; hour++) {
            MillComplaints other = withMill(5, 6, 4);
            for (int yard = 0; yard < 96; yard++) {
                Due.due("told the same of " + yard + " at " + hour, other.shadow(0, yard, hour, 0), other.shadow(0, yard, hour, 1));
            }
        }
    }
}
