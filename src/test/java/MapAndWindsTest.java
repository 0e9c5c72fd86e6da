/** Promises 1 to 5 and 16: a new object, mill, house, wind, set, yardOf. */
public final class MapAndWindsTest {
    public static void main(String[] args) {
        newObject();
        mills();
        houses();
        mapIsShared();
        winds();
        settings();
        settingsLeaveSailsTied();
        yards();
        Due.end();
    }

    private static void newObject() {
        MillComplaints desk = new MillComplaints();
        for (int what = 0; what <= 11; what++) {
            Due.due("new: count(" + what + ")", desk.count(what), 0);
        }
        Due.due("new: count(12)", desk.count(12), 6);
        Due.due("new: count(13)", desk.count(13), 3);
        Due.due("new: count(14)", desk.count(14), 2);
        Due.due("new: count(15)", desk.count(15), 8);
        Due.due("new: millOf(0, 0)", desk.millOf(0, 0), -1);
        Due.due("new: houseOf(0, 0)", desk.houseOf(0, 0), -1);
        Due.due("new: undo", desk.undo(), -5);
        Due.due("new: restore", desk.restore(), -5);
        Due.due("new: fault", desk.fault(), 0);
        Due.due("new: loudest", desk.loudest(0), -5);
        Due.dueFloat("new: ground", desk.ground(), 1.0f);
        for (int yard = 0; yard < 96; yard++) {
            Due.due("new: mill at " + yard, desk.yardOf(yard, 0), -5);
            Due.due("new: house at " + yard, desk.yardOf(yard, 1), -5);
        }
        for (int hour = 0; hour < 24; hour++) {
            Due.due("new: wind of " + hour, desk.wind(hour, hour, 3), -5);
        }
    }

    private static void mills() {
        MillComplaints desk = new MillComplaints();
        Due.due("mill(1, -1)", desk.mill(1, -1), -1);
        Due.due("mill(1, 96)", desk.mill(1, 96), -1);
        Due.due("mill(1, MIN)", desk.mill(1, Integer.MIN_VALUE), -1);
        Due.due("mill(0, 96): the yard is looked at first", desk.mill(0, 96), -1);
        Due.due("mill(0, 0)", desk.mill(0, 0), -2);
        Due.due("mill(6, 0)", desk.mill(6, 0), -2);
        Due.due("mill(MAX, 0)", desk.mill(Integer.MAX_VALUE, 0), -2);
        Due.due("no act so far", desk.count(10), 0);
        Due.due("mill(1, 0)", desk.mill(1, 0), 0);
        Due.due("mill(5, 95)", desk.mill(5, 95), 1);
        Due.due("mill(6, 95): the height is looked at first", desk.mill(6, 95), -2);
        Due.due("mill(1, 95): something is there", desk.mill(1, 95), -4);
        Due.due("mill(2, 7)", desk.mill(2, 7), 2);
        Due.due("three acts", desk.count(10), 3);
        Due.due("mill(4, 11)", desk.mill(4, 11), 3);
        Due.due("mill(4, 12): there are 4", desk.mill(4, 12), -3);
        Due.due("mill(4, 11): something is there, also if full", desk.mill(4, 11), -4);
        Due.due("mill(0, 12): a bad height, also if full", desk.mill(0, 12), -2);
        Due.due("mills", desk.count(0), 4);
        int[] heights = {1, 5, 2, 4};
        int[] yards = {0, 95, 7, 11};
        for (int mill = 0; mill < 4; mill++) {
            Due.due("height of " + mill, desk.millOf(mill, 0), heights[mill]);
            Due.due("yard of " + mill, desk.millOf(mill, 1), yards[mill]);
            Due.due("tied hours of " + mill, desk.millOf(mill, 2), 0);
            Due.due("turning hours of " + mill, desk.millOf(mill, 3), Due.hours(0, 23));
        }
    }

    private static void houses() {
        MillComplaints desk = new MillComplaints();
        Due.due("house(-1)", desk.house(-1), -1);
        Due.due("house(96)", desk.house(96), -1);
        Due.due("house(MAX)", desk.house(Integer.MAX_VALUE), -1);
        Due.due("no act so far", desk.count(10), 0);
        Due.due("house(95)", desk.house(95), 0);
        Due.due("house(95) again", desk.house(95), -4);
        for (int house = 1; house < 10; house++) {
            Due.due("house(" + house + ")", desk.house(house), house);
        }
        Due.due("house(0): there are 10", desk.house(0), -3);
        Due.due("house(9): something is there, also if full", desk.house(9), -4);
        Due.due("house(96): no such yard, also if full", desk.house(96), -1);
        Due.due("houses", desk.count(1), 10);
        Due.due("yard of house 0", desk.houseOf(0, 0), 95);
        Due.due("yard of house 9", desk.houseOf(9, 0), 9);
        Due.due("vain complaints of house 9", desk.houseOf(9, 1), 0);
    }

    private static void mapIsShared() {
        MillComplaints desk = new MillComplaints();
        Due.due("mill(1, 40)", desk.mill(1, 40), 0);
        Due.due("house(40) on a mill", desk.house(40), -4);
        Due.due("house(41)", desk.house(41), 0);
        Due.due("mill(1, 41) on a house", desk.mill(1, 41), -4);
        Due.due("two acts", desk.count(10), 2);
    }

    private static void winds() {
        MillComplaints desk = new MillComplaints();
        desk.mill(1, 0);
        Due.due("wind(-1, 3, 1)", desk.wind(-1, 3, 1), -1);
        Due.due("wind(24, 24, 1)", desk.wind(24, 24, 1), -1);
        Due.due("wind(0, 24, 1)", desk.wind(0, 24, 1), -1);
        Due.due("wind(0, -1, 1)", desk.wind(0, -1, 1), -1);
        Due.due("wind(5, 4, 1)", desk.wind(5, 4, 1), -1);
        Due.due("wind(5, 4, 10): the hours are looked at first", desk.wind(5, 4, 10), -1);
        Due.due("wind(0, MAX, 1)", desk.wind(0, Integer.MAX_VALUE, 1), -1);
        Due.due("wind(0, 23, -1)", desk.wind(0, 23, -1), -2);
        Due.due("wind(0, 23, 10)", desk.wind(0, 23, 10), -2);
        Due.due("wind(0, 23, 3): none had another", desk.wind(0, 23, 3), -5);
        Due.due("no act so far but the mill", desk.count(10), 1);
        Due.due("wind(4, 6, 9)", desk.wind(4, 6, 9), 3);
        Due.due("an act", desk.count(10), 2);
        Due.due("wind(5, 7, 9)", desk.wind(5, 7, 9), 1);
        Due.due("wind(4, 7, 9)", desk.wind(4, 7, 9), -5);
        Due.due("wind(0, 0, 0)", desk.wind(0, 0, 0), 1);
        Due.due("wind(23, 23, 1)", desk.wind(23, 23, 1), 1);
        Due.due("wind(22, 22, 2)", desk.wind(22, 22, 2), 1);
        Due.due("turning from a wind of 2 on", desk.millOf(0, 3), Due.hours(1, 22));
        Due.due("grain", desk.millOf(0, 4), 17 * 3 + 4 * 9 + 2);
        Due.due("wind(0, 23, 3)", desk.wind(0, 23, 3), 7);
    }

    private static void settings() {
        int[] first = {6, 3, 2, 8};
        int[] least = {0, 0, 1, 0};
        int[] most = {20, 20, 9, 99};
        for (int which = 0; which < 4; which++) {
            MillComplaints desk = new MillComplaints();
            String call = "set(" + which + ", ";
            Due.due(call + "least - 1)", desk.set(which, least[which] - 1), -2);
            Due.due(call + "most + 1)", desk.set(which, most[which] + 1), -2);
            Due.due(call + "MIN)", desk.set(which, Integer.MIN_VALUE), -2);
            Due.due(call + "first)", desk.set(which, first[which]), -5);
            Due.due("no act", desk.count(10), 0);
            Due.due(call + "least)", desk.set(which, least[which]), first[which]);
            Due.due("an act", desk.count(10), 1);
            Due.due("setting " + which, desk.count(12 + which), least[which]);
            Due.due(call + "least) again", desk.set(which, least[which]), -5);
            Due.due(call + "most)", desk.set(which, most[which]), least[which]);
            Due.due("setting " + which, desk.count(12 + which), most[which]);
            for (int other = 0; other < 4; other++) {
                if (other != which) {
                    Due.due("setting " + other, desk.count(12 + other), first[other]);
                }
            }
        }
        MillComplaints desk = new MillComplaints();
        Due.due("set(-1, 5)", desk.set(-1, 5), -2);
        Due.due("set(4, 5)", desk.set(4, 5), -2);
        Due.due("set(MAX, 5)", desk.set(Integer.MAX_VALUE, 5), -2);
        Due.due("set(-1, 500)", desk.set(-1, 500), -2);
        Due.due("set(-1, 0)", desk.set(-1, 0), -2);
        Due.due("set(4, 0)", desk.set(4, 0), -2);
    }

    private static void settingsLeaveSailsTied() {
        MillComplaints desk = new MillComplaints();
        desk.mill(1, 0);
        desk.house(1);
        desk.house(2);
        Due.due("complaint at 0", desk.complain(0, 0, 0, 0), 1);
        Due.due("fewer points tie", desk.set(2, 1), 2);
        Due.due("the sails are not tied by the setting", desk.millOf(0, 2), 0);
        Due.due("a complaint ties", desk.complain(1, 0, 0, 0), 2);
        Due.due("tied at 0", desk.millOf(0, 2), 1);
        Due.due("more points tie", desk.set(2, 9), 1);
        Due.due("the sails stay tied", desk.millOf(0, 2), 1);
    }

    private static void yards() {
        MillComplaints desk = new MillComplaints();
        desk.mill(1, 0);
        desk.mill(1, 95);
        desk.house(94);
        desk.house(1);
        Due.due("yardOf(-1, 0)", desk.yardOf(-1, 0), -1);
        Due.due("yardOf(96, 1)", desk.yardOf(96, 1), -1);
        Due.due("yardOf(96, 7): the yard is looked at first", desk.yardOf(96, 7), -1);
        Due.due("yardOf(0, -1)", desk.yardOf(0, -1), -2);
        Due.due("yardOf(0, 2)", desk.yardOf(0, 2), -2);
        Due.due("yardOf(50, 2): no mill, but a bad value first", desk.yardOf(50, 2), -2);
        Due.due("yardOf(0, 0)", desk.yardOf(0, 0), 0);
        Due.due("yardOf(0, 1)", desk.yardOf(0, 1), -5);
        Due.due("yardOf(95, 0)", desk.yardOf(95, 0), 1);
        Due.due("yardOf(94, 1)", desk.yardOf(94, 1), 0);
        Due.due("yardOf(94, 0)", desk.yardOf(94, 0), -5);
        Due.due("yardOf(1, 1)", desk.yardOf(1, 1), 1);
        Due.due("yardOf(2, 0)", desk.yardOf(2, 0), -5);
        Due.due("yardOf(2, 1)", desk.yardOf(2, 1), -5);
    }
}
