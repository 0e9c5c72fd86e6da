/** All that is told of a state, joined: two states that differ in one answer are told differently. */
final class Told {
    private Told() {
    }

    /** The state, without the text, the history and the snapshot. Asks some 320 of the 512 calls: so once for an object. */
    static String of(MillComplaints desk) {
        StringBuilder told = new StringBuilder();
        for (int what = 0; what <= 15; what++) {
            if (what != 10 && what != 11) {
                told.append(desk.count(what)).append(' ');
            }
        }
        for (int mill = 0; mill < 4; mill++) {
            for (int what = 0; what <= 5; what++) {
                told.append(desk.millOf(mill, what)).append(' ');
            }
            told.append(desk.quietHours(mill)).append(' ');
        }
        for (int house = 0; house < 10; house++) {
            for (int what = 0; what <= 5; what++) {
                told.append(desk.houseOf(house, what)).append(' ');
            }
        }
        for (int yard = 0; yard < 96; yard++) {
            told.append(desk.yardOf(yard, 0)).append(desk.yardOf(yard, 1)).append(' ');
        }
        tellWinds(told, desk);
        return told.toString();
    }

    private static void tellWinds(StringBuilder told, MillComplaints desk) {
        int yard = desk.millOf(0, 1);
        for (int hour = 0; hour < 24 && yard >= 0; hour++) {
            told.append(desk.noise(0, yard, hour)).append(' ');
        }
    }
}
