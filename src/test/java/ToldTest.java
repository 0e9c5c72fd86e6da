/** Promises 17 to 20, 22 and 23: millOf, houseOf, noise, shadow, count, ground. */
public final class ToldTest {
    public static void main(String[] args) {
        millsTold();
        housesTold();
        housesTroubled();
        noises();
        shadowsOfEachHour();
        shadowsAtTheEdges();
        shadowsUnknown();
        counts();
        share();
        Due.end();
    }

    private static void millsTold() {
        MillComplaints desk = new MillComplaints();
        desk.mill(4, 30);
        desk.mill(2, 50);
        desk.house(31);
        desk.house(51);
        desk.set(1, 0);
        desk.set(2, 1);
        desk.wind(0, 0, 9);
        desk.wind(7, 7, 1);
        desk.wind(8, 8, 2);
        desk.complain(0, 0, 0, 0);
        desk.complain(0, 0, 0, 23);
        desk.complain(1, 1, 0, 1);
        desk.set(2, 2);
        desk.complain(0, 1, 0, 2);
        desk.complain(1, 1, 0, 2);
        Due.due("millOf(-1, 0)", desk.millOf(-1, 0), -1);
        Due.due("millOf(2, 0)", desk.millOf(2, 0), -1);
        Due.due("millOf(2, 9): the mill is looked at first", desk.millOf(2, 9), -1);
        Due.due("millOf(MIN, 0)", desk.millOf(Integer.MIN_VALUE, 0), -1);
        Due.due("millOf(0, -1)", desk.millOf(0, -1), -2);
        Due.due("millOf(0, 6)", desk.millOf(0, 6), -2);
        Due.due("millOf(1, MAX)", desk.millOf(1, Integer.MAX_VALUE), -2);
        Due.due("height", desk.millOf(0, 0), 4);
        Due.due("yard", desk.millOf(1, 1), 50);
        Due.due("tied of 0", desk.millOf(0, 2), 1 << 23 | 1);
        Due.due("tied of 1", desk.millOf(1, 2), 1 << 1 | 1 << 2);
        Due.due("turns of 0", desk.millOf(0, 3), Due.hours(1, 6) | Due.hours(8, 22));
        Due.due("turns of 1", desk.millOf(1, 3), 1 | Due.hours(3, 6) | Due.hours(8, 23));
        Due.due("grain of 0", desk.millOf(0, 4), 20 * 3 + 2);
        Due.due("grain of 1", desk.millOf(1, 4), 9 + 19 * 3 + 2);
        Due.due("points of 0", desk.millOf(0, 5), 2);
        Due.due("points of 1", desk.millOf(1, 5), 3);
        desk.wind(0, 0, 3);
        desk.wind(23, 23, 0);
        Due.due("sails stay tied by another wind", desk.millOf(0, 2), 1 << 23 | 1);
        Due.due("points stay, too", desk.millOf(0, 5), 2);
    }

    private static void housesTold() {
        MillComplaints desk = new MillComplaints();
        desk.mill(4, 30);
        desk.mill(2, 50);
        desk.house(31);
        desk.house(51);
        desk.set(1, 0);
        Due.due("houseOf(-1, 0)", desk.houseOf(-1, 0), -1);
        Due.due("houseOf(2, 0)", desk.houseOf(2, 0), -1);
        Due.due("houseOf(2, 9): the house is looked at first", desk.houseOf(2, 9), -1);
        Due.due("houseOf(MAX, 0)", desk.houseOf(Integer.MAX_VALUE, 0), -1);
        Due.due("houseOf(0, -1)", desk.houseOf(0, -1), -2);
        Due.due("houseOf(0, 6)", desk.houseOf(0, 6), -2);
        Due.due("houseOf(1, MIN)", desk.houseOf(1, Integer.MIN_VALUE), -2);
        desk.complain(0, 0, 0, 0);
        desk.complain(0, 0, 0, 23);
        desk.complain(0, 0, 1, 18);
        desk.complain(0, 1, 0, 0);
        desk.complain(1, 1, 1, 17);
        Due.due("yard", desk.houseOf(1, 0), 51);
        Due.due("standing of 0", desk.houseOf(0, 3), 4);
        Due.due("standing of 1", desk.houseOf(1, 3), 1);
        for (int vain = 0; vain < 4; vain++) {
            Due.due("vain", desk.houseOf(1, 1), Math.min(3, vain));
            Due.due("barred", desk.houseOf(1, 2), vain >= 3 ? 1 : 0);
            desk.complain(1, 0, 0, 12);
        }
        Due.due("they stand, also of a barred house", desk.houseOf(1, 3), 1);
        Due.due("the other one is not barred", desk.houseOf(0, 2), 0);
    }

    private static void housesTroubled() {
        MillComplaints desk = new MillComplaints();
        desk.mill(1, Due.yard(3, 3));
        desk.mill(2, Due.yard(7, 3));
        desk.house(Due.yard(6, 3));
        desk.house(Due.yard(3, 2));
        Due.due("by noise, at night (5 of the mill 1)", desk.houseOf(0, 4), Due.hours(0, 5) | Due.hours(22, 23));
        Due.due("by shadow: of the mill 1 from the east, of the mill 0 at 18, 17", desk.houseOf(0, 5),
            Due.hours(6, 9) | Due.hours(17, 18));
        Due.due("the house to the north has no shadow", desk.houseOf(1, 5), 0);
        desk.wind(0, 1, 1);
        desk.wind(2, 2, 2);
        desk.wind(12, 12, 4);
        Due.due("by noise", desk.houseOf(0, 4), Due.hours(3, 5) | 1 << 12 | Due.hours(22, 23));
        Due.due("by noise, 3 is not more than 3", desk.houseOf(1, 4), Due.hours(3, 5) | 1 << 12 | Due.hours(22, 23));
        desk.set(1, 2);
        Due.due("by noise, 3 is more than 2", desk.houseOf(1, 4), Due.hours(2, 5) | 1 << 12 | Due.hours(22, 23));
        desk.wind(8, 8, 1);
        Due.due("no shadow troubles without wind", desk.houseOf(0, 5),
            Due.hours(6, 7) | 1 << 9 | Due.hours(17, 18));
        desk.set(2, 1);
        Due.due("tied", desk.complain(0, 1, 1, 6), 1);
        Due.due("tied sails trouble no house", desk.houseOf(0, 5), 1 << 7 | 1 << 9 | Due.hours(17, 18));
        Due.due("tied", desk.complain(1, 0, 0, 12), 1);
        Due.due("the other mill is too far to be heard at the house 1", desk.houseOf(1, 4),
            Due.hours(2, 5) | Due.hours(22, 23));
        Due.due("the other mill is heard at the house 0", desk.houseOf(0, 4),
            Due.hours(2, 5) | 1 << 12 | Due.hours(22, 23));
        Due.due("the night's edges: noise of 21 is borne", desk.houseOf(0, 4) >> 21 & 1, 0);
    }

    private static void noises() {
        MillComplaints desk = new MillComplaints();
        desk.mill(1, Due.yard(2, 3));
        desk.wind(1, 1, 9);
        desk.wind(2, 2, 1);
        desk.wind(3, 3, 2);
        desk.wind(4, 4, 0);
        int[][] rows = {{2, 3, 0, 6}, {3, 3, 0, 5}, {3, 4, 0, 5}, {1, 2, 0, 5}, {2, 5, 0, 4}, {4, 5, 0, 4}, {3, 5, 0, 4},
            {8, 3, 0, 0}, {7, 7, 0, 1}, {11, 7, 0, 0}, {11, 7, 1, 9}, {0, 0, 1, 15}, {2, 7, 1, 14}, {2, 3, 1, 18},
            {2, 3, 2, 0}, {3, 3, 2, 0}, {2, 3, 3, 4}, {2, 2, 3, 3}, {2, 3, 4, 0}, {6, 3, 3, 0}, {5, 3, 3, 1}};
        for (int[] row : rows) {
            String call = "noise(0, (" + row[0] + ", " + row[1] + "), " + row[2] + ")";
            Due.due(call, desk.noise(0, Due.yard(row[0], row[1]), row[2]), row[3]);
        }
        Due.due("noise(-1, 0, 0)", desk.noise(-1, 0, 0), -1);
        Due.due("noise(1, 0, 0)", desk.noise(1, 0, 0), -1);
        Due.due("noise(0, -1, 0)", desk.noise(0, -1, 0), -1);
        Due.due("noise(0, 96, 0)", desk.noise(0, 96, 0), -1);
        Due.due("noise(0, 0, -1)", desk.noise(0, 0, -1), -1);
        Due.due("noise(0, 0, 24)", desk.noise(0, 0, 24), -1);
        Due.due("noise(MAX, 0, 0)", desk.noise(Integer.MAX_VALUE, 0, 0), -1);
        desk.house(Due.yard(3, 3));
        desk.set(2, 1);
        desk.complain(0, 0, 0, 1);
        Due.due("no noise of tied sails", desk.noise(0, Due.yard(3, 3), 1), 0);
        Due.due("but in other hours", desk.noise(0, Due.yard(3, 3), 0), 5);
    }

    /** Of each hour the way (x, y) and the length of the shadow of mills of the heights 1 to 5, as the words tell. */
    private static void shadowsOfEachHour() {
        int[][] rows = {{6, -1, 0, 3, 6, 9, 12, 15}, {7, -1, 0, 3, 5, 8, 10, 13}, {8, -1, 0, 2, 4, 6, 8, 10},
            {9, -1, 0, 2, 3, 5, 6, 8}, {10, -1, -1, 1, 2, 3, 4, 5}, {11, -1, -1, 1, 1, 2, 2, 3}, {12, 0, -1, 0, 0, 0, 0, 0},
            {13, 1, -1, 1, 1, 2, 2, 3}, {14, 1, -1, 1, 2, 3, 4, 5}, {15, 1, 0, 2, 3, 5, 6, 8}, {16, 1, 0, 2, 4, 6, 8, 10},
            {17, 1, 0, 3, 5, 8, 10, 13}, {18, 1, 0, 3, 6, 9, 12, 15}};
        int[][] places = {{5, 5}, {0, 0}, {11, 7}, {11, 0}};
        for (int height = 1; height <= 5; height++) {
            for (int mill = 0; mill < places.length; mill++) {
                for (int hour = 0; hour < 24; hour++) {
                    int[] row = hour >= 6 && hour <= 18 ? rows[hour - 6] : new int[8];
                    shadowOfAnHour(withMills(height, places), mill, hour, places[mill], row[1], row[2], row[2 + height]);
                }
            }
        }
    }

    private static MillComplaints withMills(int height, int[][] places) {
        MillComplaints desk = new MillComplaints();
        for (int[] place : places) {
            desk.mill(height, Due.yard(place[0], place[1]));
        }
        return desk;
    }

    private static void shadowOfAnHour(MillComplaints desk, int mill, int hour, int[] place, int east, int south, int length) {
        boolean[] isDark = new boolean[96];
        for (int step = 1; step <= length; step++) {
            int x = place[0] + step * east;
            int y = place[1] + step * south;
            if (x >= 0 && x < 12 && y >= 0 && y < 8) {
                isDark[Due.yard(x, y)] = true;
            }
        }
        for (int yard = 0; yard < 96; yard++) {
            String call = "shadow(" + mill + ", " + yard + ", " + hour + ", ";
            Due.due(call + "0)", desk.shadow(mill, yard, hour, 0), isDark[yard] ? 1 : 0);
            Due.due(call + "1)", desk.shadow(mill, yard, hour, 1), isDark[yard] ? 1 : 0);
        }
    }

    private static void shadowsAtTheEdges() {
        MillComplaints desk = new MillComplaints();
        desk.mill(5, Due.yard(1, 3));
        desk.mill(1, Due.yard(0, 3));
        desk.house(Due.yard(2, 3));
        desk.house(Due.yard(4, 3));
        for (int way = 0; way <= 1; way++) {
            Due.due("over another mill, to the edge", desk.shadow(0, Due.yard(0, 3), 6, way), 1);
            Due.due("not round the map", desk.shadow(0, Due.yard(11, 2), 6, way), 0);
            Due.due("not round the map", desk.shadow(0, Due.yard(11, 3), 6, way), 0);
            Due.due("over a house", desk.shadow(0, Due.yard(4, 3), 18, way), 1);
            Due.due("not on its own yard", desk.shadow(0, Due.yard(1, 3), 18, way), 0);
        }
        Due.due("the house behind the other is troubled", desk.why(1, 0, 1, 18), 0);
        Due.due("the house behind the other mill is troubled", desk.houseOf(0, 5), Due.hours(15, 18));
        desk.wind(18, 18, 0);
        Due.due("the shadow lies, whether the mill turns or not", desk.shadow(0, Due.yard(4, 3), 18, 0), 1);
        Due.due("the shadow lies, whether the mill turns or not", desk.shadow(0, Due.yard(4, 3), 18, 1), 1);
        desk.set(2, 1);
        desk.complain(1, 0, 1, 17);
        Due.due("tied", desk.millOf(0, 2), 1 << 17);
        Due.due("the shadow lies, tied or not", desk.shadow(0, Due.yard(4, 3), 17, 0), 1);
        Due.due("the shadow lies, tied or not", desk.shadow(0, Due.yard(4, 3), 17, 1), 1);
    }

    private static void shadowsUnknown() {
        MillComplaints desk = new MillComplaints();
        desk.mill(5, 50);
        int[][] unknown = {{-1, 0, 6, 0}, {1, 0, 6, 0}, {0, -1, 6, 0}, {0, 96, 6, 1}, {0, 0, -1, 0}, {0, 0, 24, 1},
            {1, 0, 6, 2}, {0, 96, 6, 2}, {0, 0, 24, -1}, {Integer.MAX_VALUE, 0, 6, 0}, {0, Integer.MIN_VALUE, 6, 1}};
        for (int[] row : unknown) {
            Due.due("shadow: unknown", desk.shadow(row[0], row[1], row[2], row[3]), -1);
        }
        int[] ways = {-1, 2, Integer.MAX_VALUE, Integer.MIN_VALUE};
        for (int way : ways) {
            Due.due("shadow: way", desk.shadow(0, 49, 6, way), -2);
            Due.due("shadow: way, without sun", desk.shadow(0, 49, 0, way), -2);
        }
    }

    private static void counts() {
        MillComplaints desk = new MillComplaints();
        Due.due("count(-1)", desk.count(-1), -2);
        Due.due("count(16)", desk.count(16), -2);
        Due.due("count(MAX)", desk.count(Integer.MAX_VALUE), -2);
        Due.due("count(MIN)", desk.count(Integer.MIN_VALUE), -2);
        desk.mill(1, 0);
        desk.mill(1, 95);
        desk.house(1);
        desk.house(94);
        desk.house(50);
        desk.set(0, 9);
        desk.set(1, 2);
        desk.set(2, 1);
        desk.set(3, 5);
        Due.type(desk, "h@a");
        desk.complain(0, 0, 0, 0);
        desk.complain(0, 0, 0, 1);
        desk.complain(0, 0, 0, 2);
        desk.complain(1, 1, 0, 0);
        desk.complain(1, 1, 0, 12);
        desk.complain(2, 1, 0, 12);
        desk.wind(5, 5, 6);
        Due.due("sue", desk.sue(0, 0, 0), 1);
        Due.due("sue", desk.sue(1, 1, 0), 0);
        Due.due("sue", desk.sue(0, 0, 1), 1);
        Due.due("vote", desk.vote(0, 2), 2);
        Due.due("vote", desk.vote(1, 0), 2);
        desk.complain(0, 0, 0, 23);
        desk.complain(1, 1, 0, 23);
        desk.complain(1, 1, 0, 22);
        desk.wind(23, 23, 1);
        Due.due("sue", desk.sue(1, 1, 22), 1);
        Due.due("vote", desk.vote(1, 23), 3);
        desk.complain(1, 1, 0, 22);
        int[] due = {2, 3, 8, 2, 4, 3, 3, 3, 2, 2 * (22 * 3 + 6) - 3, 4, 3, 9, 2, 1, 5};
        for (int what = 0; what < due.length; what++) {
            Due.due("count(" + what + ")", desk.count(what), due[what]);
        }
    }

    private static void share() {
        MillComplaints desk = new MillComplaints();
        desk.wind(0, 22, 1);
        desk.wind(23, 23, 5);
        Due.dueFloat("without mills", desk.ground(), 1.0f);
        desk.mill(1, 0);
        desk.mill(1, 2);
        desk.house(1);
        Due.dueFloat("nothing is tied", desk.ground(), 1.0f);
        desk.set(2, 1);
        desk.complain(0, 0, 0, 23);
        Due.dueFloat("the half", desk.ground(), 0.5f);
        desk.wind(0, 0, 2);
        Due.dueFloat("9 of 14", desk.ground(), 9.0f / 14.0f);
        desk.complain(0, 1, 0, 23);
        Due.dueFloat("4 of 14", desk.ground(), 4.0f / 14.0f);
        desk.wind(0, 0, 1);
        Due.dueFloat("nothing is ground", desk.ground(), 0.0f);
        desk.wind(23, 23, 1);
        Due.dueFloat("nothing could be", desk.ground(), 1.0f);
    }
}
