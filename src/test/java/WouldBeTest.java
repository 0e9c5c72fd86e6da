/** Promises 24 to 27: quietHours, loudest, bestTied, ifVoted. */
public final class WouldBeTest {
    public static void main(String[] args) {
        quiet();
        loud();
        best();
        bestOfSeveral();
        bestForOneHouse();
        ifVoted();
        Due.end();
    }

    private static void quiet() {
        MillComplaints desk = new MillComplaints();
        Due.due("quietHours(0)", desk.quietHours(0), -1);
        desk.mill(3, Due.yard(5, 4));
        Due.due("quietHours(-1)", desk.quietHours(-1), -1);
        Due.due("quietHours(1)", desk.quietHours(1), -1);
        Due.due("quietHours(MAX)", desk.quietHours(Integer.MAX_VALUE), -1);
        Due.due("without houses", desk.quietHours(0), Due.hours(0, 23));
        desk.wind(20, 20, 1);
        desk.wind(21, 21, 2);
        Due.due("without wind it could not turn", desk.quietHours(0), Due.hours(0, 23) & ~(1 << 20));
        desk.house(Due.yard(4, 4));
        int quiet = Due.hours(10, 19) | 1 << 21;
        Due.due("noise at night, shadow from 6 to 9", desk.quietHours(0), quiet);
        desk.house(Due.yard(8, 4));
        Due.due("shadow from 15 to 18", desk.quietHours(0), quiet & ~Due.hours(15, 18));
        desk.set(2, 1);
        desk.complain(0, 0, 1, 7);
        desk.wind(7, 7, 1);
        desk.complain(0, 0, 0, 0);
        desk.set(1, 20);
        quiet = Due.hours(10, 14) | 1 << 19 | Due.hours(21, 23) | Due.hours(0, 5);
        Due.due("tied or not", desk.quietHours(0), quiet);
        desk.mill(5, Due.yard(11, 4));
        Due.due("other mills do not count", desk.quietHours(0), quiet);
    }

    private static void loud() {
        MillComplaints desk = new MillComplaints();
        Due.due("loudest(-1)", desk.loudest(-1), -1);
        Due.due("loudest(24)", desk.loudest(24), -1);
        Due.due("loudest(MIN)", desk.loudest(Integer.MIN_VALUE), -1);
        Due.due("without houses", desk.loudest(0), -5);
        desk.mill(1, Due.yard(0, 0));
        Due.due("without houses", desk.loudest(0), -5);
        desk.house(Due.yard(6, 0));
        Due.due("all have 0", desk.loudest(0), -5);
        desk.house(Due.yard(5, 0));
        Due.due("1 is more than 0", desk.loudest(0), 1);
        desk.house(Due.yard(1, 0));
        Due.due("5 is more than 1", desk.loudest(0), 2);
        desk.house(Due.yard(0, 1));
        Due.due("of several the lowest", desk.loudest(0), 2);
        desk.mill(1, Due.yard(7, 0));
        Due.due("of several the lowest: 0 + 5, 1 + 4, 5 + 0", desk.loudest(0), 0);
        desk.wind(0, 0, 4);
        Due.due("added up: 2 + 7, 3 + 6, 7 + 2, 7 + 1", desk.loudest(0), 0);
        desk.mill(1, Due.yard(3, 0));
        Due.due("added up: 2 + 7 + 5, 3 + 6 + 6, 7 + 2 + 6, 7 + 1 + 5", desk.loudest(0), 1);
        Due.due("another hour: 5, 5 + 4, 5 + 4, 5 + 3", desk.loudest(1), 1);
        desk.set(2, 1);
        Due.due("tied", desk.complain(0, 2, 0, 0), 1);
        Due.due("tied sails make no noise", desk.loudest(0), 0);
        desk.wind(0, 0, 1);
        Due.due("without wind all have 0", desk.loudest(0), -5);
    }

    private static void best() {
        MillComplaints desk = new MillComplaints();
        Due.due("bestTied(0)", desk.bestTied(0), -1);
        desk.mill(1, Due.yard(5, 4));
        Due.due("bestTied(-1)", desk.bestTied(-1), -1);
        Due.due("bestTied(1)", desk.bestTied(1), -1);
        Due.due("bestTied(MAX)", desk.bestTied(Integer.MAX_VALUE), -1);
        Due.due("without houses", desk.bestTied(0), -5);
        desk.house(Due.yard(9, 4));
        Due.due("2 is borne at night, no shadow so far", desk.bestTied(0), -5);
        desk.house(Due.yard(8, 4));
        Due.due("by shadow at 17", desk.bestTied(0), 17);
        desk.set(1, 2);
        Due.due("by noise at night, of several the lowest", desk.bestTied(0), 0);
        desk.wind(3, 4, 2);
        Due.due("2 is borne again", desk.bestTied(0), 0);
        desk.wind(0, 0, 4);
        Due.due("the most houses, whatever the wind", desk.bestTied(0), 0);
        desk.wind(1, 1, 4);
        Due.due("of several with the least wind the lowest", desk.bestTied(0), 0);
        desk.wind(0, 0, 5);
        Due.due("of several the one with the least wind", desk.bestTied(0), 1);
        desk.set(2, 1);
        desk.complain(0, 0, 0, 1);
        Due.due("in which it turns", desk.bestTied(0), 0);
        desk.complain(0, 0, 0, 0);
        Due.due("the most are one house now", desk.bestTied(0), 2);
    }

    private static void bestOfSeveral() {
        MillComplaints desk = new MillComplaints();
        desk.mill(5, Due.yard(5, 4));
        desk.house(Due.yard(4, 4));
        desk.house(Due.yard(3, 4));
        desk.house(Due.yard(6, 3));
        desk.set(1, 20);
        Due.due("two in the shadow from 6 to 9", desk.bestTied(0), 6);
        desk.wind(8, 8, 2);
        Due.due("the least wind", desk.bestTied(0), 8);
        desk.wind(9, 9, 2);
        Due.due("the lowest of them", desk.bestTied(0), 8);
        desk.wind(13, 13, 4);
        desk.set(0, 6);
        Due.due("one by shadow and noise, two by noise alone at 13", desk.bestTied(0), 8);
        desk.set(0, 5);
        Due.due("7, 6 and 7 are more than 5: all three at 13", desk.bestTied(0), 13);
        desk.wind(8, 8, 1);
        desk.wind(13, 13, 1);
        Due.due("it has to turn", desk.bestTied(0), 9);
    }

    private static void bestForOneHouse() {
        MillComplaints desk = new MillComplaints();
        desk.mill(5, Due.yard(5, 4));
        desk.house(Due.yard(4, 4));
        Due.due("the lowest hour", desk.bestTied(0), 0);
        desk.wind(7, 7, 2);
        desk.wind(9, 9, 2);
        Due.due("the least wind, by shadow", desk.bestTied(0), 7);
        desk.wind(0, 23, 0);
        Due.due("it never turns", desk.bestTied(0), -5);
    }

    private static void ifVoted() {
        MillComplaints desk = new MillComplaints();
        Due.due("ifVoted(0, 0)", desk.ifVoted(0, 0), -1);
        desk.mill(3, Due.yard(5, 4));
        Due.due("ifVoted(-1, 0)", desk.ifVoted(-1, 0), -1);
        Due.due("ifVoted(1, 0)", desk.ifVoted(1, 0), -1);
        Due.due("ifVoted(0, -1)", desk.ifVoted(0, -1), -1);
        Due.due("ifVoted(0, 24)", desk.ifVoted(0, 24), -1);
        Due.due("without houses", desk.ifVoted(0, 0), 0);
        desk.house(Due.yard(4, 4));
        desk.house(Due.yard(6, 4));
        desk.house(Due.yard(11, 7));
        Due.due("at night: the house far away alone", desk.ifVoted(0, 0), 1);
        Due.due("at 6: but the house in the shadow", desk.ifVoted(0, 6), 2);
        Due.due("at 12: all", desk.ifVoted(0, 12), 3);
        Due.due("tied", desk.complain(0, 0, 0, 0), 1);
        Due.due("tied", desk.complain(1, 0, 0, 0), 2);
        Due.due("tied or not", desk.ifVoted(0, 0), 1);
        Due.due("vote", desk.vote(0, 0), 1);
        desk.wind(0, 0, 1);
        Due.due("without wind it would trouble no house", desk.ifVoted(0, 0), 3);
        Due.due("it is no act", desk.count(6), 1);
        Due.due("tied", desk.millOf(0, 2), 1);
        Due.due("vote", desk.vote(0, 0), 3);
        Due.due("untied", desk.millOf(0, 2), 0);
    }
}
