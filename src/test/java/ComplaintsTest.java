/** Promises 7 to 9 and 21: complain, sue, vote, why. */
public final class ComplaintsTest {
    public static void main(String[] args) {
        heard();
        reasonsInTheirOrder();
        refusalsThatCount();
        refusalsThatDoNot();
        tiedSailsRefuse();
        unknownComplaints();
        suits();
        suitsThatAreNotWon();
        suitsThatLeaveSailsTied();
        suitsBar();
        votes();
        votesThatChangeNothing();
        votesByShadow();
        votesClearAllComplaints();
        Due.end();
    }

    /** A mill of height 3 at (5, 4), with houses to its west, north and east, each a yard away. */
    private static MillComplaints village() {
        MillComplaints desk = new MillComplaints();
        desk.mill(3, Due.yard(5, 4));
        desk.house(Due.yard(4, 4));
        desk.house(Due.yard(5, 3));
        desk.house(Due.yard(6, 4));
        return desk;
    }

    private static void heard() {
        MillComplaints desk = village();
        Due.due("complaint of the house 0", desk.complain(0, 0, 0, 23), 1);
        Due.due("states", desk.count(10), 4);
        Due.due("not tied by 1 point", desk.millOf(0, 2), 0);
        Due.due("complaint of the house 2", desk.complain(2, 0, 0, 23), 2);
        Due.due("tied by 2 points", desk.millOf(0, 2), 1 << 23);
        Due.due("points", desk.millOf(0, 5), 2);
        Due.due("standing of 0", desk.houseOf(0, 3), 1);
        Due.due("standing of 1", desk.houseOf(1, 3), 0);
        Due.due("heard", desk.count(2), 2);
        Due.due("refused", desk.count(3), 0);
        Due.due("points of another hour", desk.complain(0, 0, 1, 6), 1);
        desk.wind(6, 6, 4);
        Due.due("the other kind is another complaint", desk.complain(0, 0, 0, 6), 2);
        Due.due("tied in both hours", desk.millOf(0, 2), 1 << 23 | 1 << 6);
        Due.due("undo", desk.undo(), 3);
        Due.due("undone", desk.millOf(0, 2), 1 << 23);
        Due.due("heard, undone", desk.count(2), 3);
    }

    private static void reasonsInTheirOrder() {
        MillComplaints desk = village();
        desk.set(2, 1);
        desk.wind(12, 13, 1);
        Due.due("heard", desk.complain(0, 0, 0, 0), 1);
        Due.due("why: it stands already (the sails are tied, too)", desk.why(0, 0, 0, 0), 2);
        Due.due("why: the sails are tied", desk.why(1, 0, 0, 0), 3);
        Due.due("why: tied, ahead of no sun", desk.why(0, 0, 1, 0), 3);
        desk.wind(0, 0, 0);
        Due.due("why: tied, ahead of the wind", desk.why(1, 0, 0, 0), 3);
        Due.due("why: wind", desk.why(0, 0, 0, 12), 4);
        Due.due("why: wind, ahead of the shadow", desk.why(0, 0, 1, 12), 4);
        desk.wind(20, 20, 1);
        Due.due("why: wind, ahead of no sun", desk.why(0, 0, 1, 20), 4);
        Due.due("why: not troubled by noise", desk.why(0, 0, 0, 14), 5);
        Due.due("why: no sun at 5", desk.why(0, 0, 1, 5), 5);
        Due.due("why: no sun at 19", desk.why(0, 0, 1, 19), 5);
        Due.due("why: sun at 6, shadow", desk.why(0, 0, 1, 6), 0);
        Due.due("why: sun at 18, shadow", desk.why(2, 0, 1, 18), 0);
        Due.due("why: sun at 6, no shadow", desk.why(2, 0, 1, 6), 6);
        Due.due("why: sun at 18, no shadow", desk.why(0, 0, 1, 18), 6);
        Due.due("why: by noise at night", desk.why(2, 0, 0, 22), 0);
        Due.due("why is no act", desk.count(3), 0);
        desk.complain(0, 0, 0, 14);
        desk.complain(0, 0, 0, 14);
        Due.due("two in vain are not barred", desk.why(0, 0, 0, 0), 2);
        desk.complain(0, 0, 0, 14);
        Due.due("why: barred, ahead of all others", desk.why(0, 0, 0, 0), 1);
        Due.due("why: barred, for any hour", desk.why(0, 0, 1, 6), 1);
        Due.due("the others are not", desk.why(1, 0, 0, 1), 0);
    }

    private static void refusalsThatCount() {
        MillComplaints desk = village();
        desk.set(2, 1);
        desk.wind(12, 12, 1);
        Due.due("wind", desk.complain(1, 0, 1, 12), -14);
        Due.due("states", desk.count(10), 4);
        Due.due("vain", desk.houseOf(1, 1), 1);
        Due.due("undo", desk.undo(), 3);
        Due.due("vain, undone", desk.houseOf(1, 1), 0);
        Due.due("refused, undone", desk.count(3), 0);
        desk.undo();
        desk.undo();
        desk.undo();
        Due.due("noise", desk.complain(0, 0, 0, 12), -15);
        Due.due("an act", desk.count(10), 1);
        Due.due("no sun", desk.complain(0, 0, 1, 4), -15);
        Due.due("an act", desk.count(10), 2);
        Due.due("vain", desk.houseOf(0, 1), 2);
        Due.due("not barred", desk.houseOf(0, 2), 0);
        Due.due("no shadow", desk.complain(0, 0, 1, 12), -16);
        Due.due("an act", desk.count(10), 3);
        Due.due("vain", desk.houseOf(0, 1), 3);
        Due.due("barred", desk.houseOf(0, 2), 1);
        Due.due("refused", desk.count(3), 3);
        Due.due("barred", desk.complain(0, 0, 1, 6), -11);
        Due.due("no act", desk.count(10), 3);
        Due.due("not counted", desk.count(3), 3);
        Due.due("not in vain", desk.houseOf(0, 1), 3);
    }

    private static void refusalsThatDoNot() {
        MillComplaints desk = new MillComplaints();
        desk.mill(3, Due.yard(5, 4));
        desk.house(Due.yard(4, 4));
        Due.due("heard", desk.complain(0, 0, 0, 0), 1);
        Due.due("it stands", desk.complain(0, 0, 0, 0), -12);
        Due.due("no act", desk.count(10), 3);
        Due.due("not in vain", desk.houseOf(0, 1), 0);
        Due.due("not counted", desk.count(3), 0);
    }

    private static void tiedSailsRefuse() {
        MillComplaints desk = new MillComplaints();
        Due.type(desk, "m3@f4;h@e4;h@f3");
        desk.doAll();
        desk.set(2, 1);
        desk.complain(0, 0, 0, 0);
        Due.due("states", desk.count(10), 3);
        Due.due("tied", desk.complain(1, 0, 0, 0), -13);
        Due.due("no act", desk.count(10), 3);
        Due.due("not in vain", desk.houseOf(1, 1), 0);
        Due.due("not counted", desk.count(3), 0);
        Due.due("not heard", desk.count(2), 1);
    }

    private static void unknownComplaints() {
        MillComplaints desk = village();
        int[][] unknown = {{-1, 0, 0, 0}, {3, 0, 0, 0}, {0, -1, 0, 0}, {0, 1, 0, 0}, {0, 0, 0, -1}, {0, 0, 0, 24},
            {3, 0, 2, 0}, {0, 1, 2, 0}, {0, 0, 2, 24}, {Integer.MAX_VALUE, 0, 0, 0}, {0, Integer.MIN_VALUE, 0, 0}};
        for (int[] row : unknown) {
            Due.due("complain: unknown", desk.complain(row[0], row[1], row[2], row[3]), -1);
            Due.due("why: unknown", desk.why(row[0], row[1], row[2], row[3]), -1);
        }
        int[] kinds = {-1, 2, Integer.MAX_VALUE, Integer.MIN_VALUE};
        for (int kind : kinds) {
            Due.due("complain: kind", desk.complain(0, 0, kind, 0), -2);
            Due.due("why: kind", desk.why(0, 0, kind, 0), -2);
        }
        Due.due("nothing heard", desk.count(2), 0);
        Due.due("nothing refused", desk.count(3), 0);
    }

    private static void suits() {
        MillComplaints desk = village();
        desk.wind(8, 8, 9);
        Due.due("sue(0, 0, 8): not tied", desk.sue(0, 0, 8), -4);
        Due.due("by noise", desk.complain(0, 0, 0, 8), 1);
        Due.due("sue(0, 0, 8): not tied yet", desk.sue(0, 0, 8), -4);
        Due.due("by shadow", desk.complain(0, 0, 1, 8), 2);
        Due.due("sue(-1, 0, 8)", desk.sue(-1, 0, 8), -1);
        Due.due("sue(1, 0, 8)", desk.sue(1, 0, 8), -1);
        Due.due("sue(0, -1, 8)", desk.sue(0, -1, 8), -1);
        Due.due("sue(0, 3, 8)", desk.sue(0, 3, 8), -1);
        Due.due("sue(0, 0, -1)", desk.sue(0, 0, -1), -1);
        Due.due("sue(0, 0, 24)", desk.sue(0, 0, 24), -1);
        Due.due("sue(0, 1, 8): no complaint of it", desk.sue(0, 1, 8), -4);
        Due.due("sue(0, 0, 9): not tied then", desk.sue(0, 0, 9), -4);
        Due.due("suits so far", desk.count(4), 0);
        Due.due("sue(0, 0, 8)", desk.sue(0, 0, 8), 1);
        Due.due("suits", desk.count(4), 1);
        Due.due("suits won", desk.count(5), 1);
        Due.due("vain", desk.houseOf(0, 1), 1);
        Due.due("both complaints are gone", desk.houseOf(0, 3), 0);
        Due.due("so are the points", desk.millOf(0, 5), 0);
        Due.due("untied", desk.millOf(0, 2), 0);
        Due.due("heard so far", desk.count(2), 2);
        Due.due("refused so far", desk.count(3), 0);
        Due.due("it can be heard again", desk.why(0, 0, 0, 8), 0);
        Due.due("undo", desk.undo(), 3);
        Due.due("tied again", desk.millOf(0, 2), 1 << 8);
        Due.due("they stand again", desk.houseOf(0, 3), 2);
        Due.due("suits, undone", desk.count(4), 0);
    }

    private static void suitsThatAreNotWon() {
        MillComplaints desk = village();
        desk.set(2, 1);
        desk.wind(23, 23, 4);
        desk.complain(0, 0, 0, 23);
        desk.complain(1, 0, 0, 0);
        Due.due("loss 4 * 2: not more than 8", desk.sue(0, 0, 23), 0);
        Due.due("suits", desk.count(4), 1);
        Due.due("suits won", desk.count(5), 0);
        Due.due("vain", desk.houseOf(0, 1), 0);
        Due.due("it stands", desk.houseOf(0, 3), 1);
        Due.due("tied", desk.millOf(0, 2), 1 << 23 | 1);
        Due.due("undo", desk.undo(), 3);
        Due.due("suits, undone", desk.count(4), 0);
        desk.set(3, 7);
        Due.due("loss 4 * 2: more than 7", desk.sue(0, 0, 23), 1);
        Due.due("untied then alone", desk.millOf(0, 2), 1);
        Due.due("points", desk.millOf(0, 5), 1);
        desk.wind(0, 0, 0);
        desk.set(3, 0);
        Due.due("loss 0 is never won", desk.sue(0, 1, 0), 0);
        desk.wind(0, 0, 1);
        Due.due("loss 1 is more than 0", desk.sue(0, 1, 0), 1);
    }

    private static void suitsThatLeaveSailsTied() {
        MillComplaints desk = village();
        desk.mill(1, 0);
        desk.set(3, 0);
        desk.complain(0, 0, 0, 0);
        desk.complain(1, 0, 0, 0);
        desk.complain(0, 0, 0, 1);
        Due.due("fewer points tie", desk.set(2, 1), 2);
        Due.due("suit against 1", desk.sue(0, 1, 0), 1);
        Due.due("a point is left", desk.millOf(0, 5), 2);
        Due.due("which is enough to stay tied", desk.millOf(0, 2), 1);
        Due.due("1 is told vain", desk.houseOf(1, 1), 1);
        Due.due("another one of 1 is not there", desk.sue(0, 1, 0), -4);
        Due.due("suit against 0", desk.sue(0, 0, 0), 1);
        Due.due("the complaint for another hour stands", desk.houseOf(0, 3), 1);
        Due.due("untied", desk.millOf(0, 2), 0);
    }

    private static void suitsBar() {
        MillComplaints desk = village();
        desk.set(3, 0);
        desk.set(2, 1);
        for (int hour = 0; hour < 4; hour++) {
            Due.due("complaint", desk.complain(0, 0, 0, hour), 1);
        }
        for (int hour = 0; hour < 4; hour++) {
            Due.due("vain before", desk.houseOf(0, 1), hour);
            Due.due("barred before", desk.houseOf(0, 2), hour >= 3 ? 1 : 0);
            Due.due("suit", desk.sue(0, 0, hour), 1);
        }
        Due.due("vain", desk.houseOf(0, 1), 4);
        Due.due("barred", desk.houseOf(0, 2), 1);
    }

    private static void votes() {
        MillComplaints desk = village();
        desk.house(Due.yard(11, 4));
        desk.house(Due.yard(11, 7));
        desk.set(2, 1);
        Due.due("vote: not tied", desk.vote(0, 0), -4);
        desk.complain(0, 0, 0, 0);
        Due.due("vote(-1, 0)", desk.vote(-1, 0), -1);
        Due.due("vote(1, 0)", desk.vote(1, 0), -1);
        Due.due("vote(0, -1)", desk.vote(0, -1), -1);
        Due.due("vote(0, 24)", desk.vote(0, 24), -1);
        Due.due("vote(0, 1): not tied", desk.vote(0, 1), -4);
        Due.due("2 of 5", desk.vote(0, 0), 2);
        Due.due("still tied", desk.millOf(0, 2), 1);
        desk.house(Due.yard(0, 7));
        Due.due("3 of 6 are not more than half", desk.vote(0, 0), 3);
        Due.due("still tied", desk.millOf(0, 2), 1);
        desk.house(Due.yard(0, 6));
        Due.due("the second complaint", desk.complain(0, 0, 1, 6), 1);
        Due.due("votes", desk.count(6), 2);
        Due.due("4 of 7", desk.vote(0, 0), 4);
        Due.due("untied", desk.millOf(0, 2), 1 << 6);
        Due.due("its complaint is gone, the other stands", desk.houseOf(0, 3), 1);
        Due.due("points", desk.millOf(0, 5), 1);
        Due.due("not in vain", desk.houseOf(0, 1), 0);
        Due.due("votes", desk.count(6), 3);
        Due.due("votes that untied", desk.count(7), 1);
        Due.due("undo", desk.undo(), 3);
        Due.due("tied again", desk.millOf(0, 2), 1 | 1 << 6);
        Due.due("votes, undone", desk.count(6), 2);
        Due.due("votes that untied, undone", desk.count(7), 0);
    }

    private static void votesThatChangeNothing() {
        MillComplaints desk = new MillComplaints();
        desk.mill(1, 0);
        Due.due("vote: not tied, no house", desk.vote(0, 0), -4);
        Due.due("ifVoted without houses", desk.ifVoted(0, 0), 0);
        desk.house(1);
        desk.complain(0, 0, 0, 0);
        desk.set(2, 1);
        desk.complain(0, 0, 0, 1);
        Due.due("one house, troubled", desk.vote(0, 1), 0);
        Due.due("votes", desk.count(6), 1);
        Due.due("votes that untied", desk.count(7), 0);
        Due.due("a vote is an act", desk.undo(), 3);
        Due.due("votes, undone", desk.count(6), 0);
        desk.wind(1, 1, 1);
        Due.due("without wind it is not troubled", desk.vote(0, 1), 1);
        Due.due("untied", desk.millOf(0, 2), 0);
        Due.due("the complaint for 0 stands", desk.houseOf(0, 3), 1);
    }

    private static void votesByShadow() {
        MillComplaints desk = village();
        desk.mill(3, Due.yard(0, 0));
        desk.set(2, 1);
        Due.due("by shadow", desk.complain(0, 0, 1, 9), 1);
        Due.due("the troubled one is against it", desk.vote(0, 9), 2);
        Due.due("2 of 3 are enough", desk.millOf(0, 2), 0);
        Due.due("gone", desk.houseOf(0, 3), 0);
    }

    private static void votesClearAllComplaints() {
        MillComplaints desk = village();
        desk.mill(3, Due.yard(5, 5));
        desk.wind(18, 18, 4);
        desk.set(2, 4);
        Due.due("0 by noise", desk.complain(0, 0, 0, 18), 1);
        Due.due("1 by noise", desk.complain(1, 0, 0, 18), 2);
        Due.due("2 by noise", desk.complain(2, 0, 0, 18), 3);
        Due.due("against another mill", desk.complain(2, 1, 0, 18), 1);
        Due.due("for another hour", desk.complain(2, 0, 1, 17), 1);
        Due.due("2 by shadow", desk.complain(2, 0, 1, 18), 4);
        desk.set(0, 20);
        Due.due("vote", desk.vote(0, 18), 2);
        Due.due("untied", desk.millOf(0, 2), 0);
        Due.due("standing of 0", desk.houseOf(0, 3), 0);
        Due.due("standing of 1", desk.houseOf(1, 3), 0);
        Due.due("standing of 2: for the other mill, and the other hour", desk.houseOf(2, 3), 2);
        Due.due("points of the mill", desk.millOf(0, 5), 1);
        Due.due("points of the other one", desk.millOf(1, 5), 1);
        desk.set(0, 6);
        Due.due("the points of the hour begin anew", desk.complain(1, 0, 0, 18), 1);
    }
}
