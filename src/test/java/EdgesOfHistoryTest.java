/** Promises 13 to 15, sentence by sentence: the edges that the document names for the history and the snapshot. */
public final class EdgesOfHistoryTest {
    public static void main(String[] args) {
        emptyAtFirst();
        atMostFourStates();
        theOldestOneIsDropped();
        undoToTheEnd();
        undoIsNoAct();
        eachActRecordsOneState();
        errorsRecordNothing();
        noneRecordsNothing();
        callsThatAreNoActsRecordNothing();
        theHistoryIsFilledAgainAfterUndo();
        noSnapshotAtFirst();
        keepTakesThePlaceOfTheOneThatWas();
        keepTellsHowManyHouses();
        restoreIsAnActAtEveryLengthOfTheHistory();
        theSnapshotStays();
        undoLeavesTheSnapshot();
        restoreDoesNotTouchTheText();
        restoreOfTheSameState();
        aBarredHouseAndTiedSailsComeBack();
        Due.end();
    }

    /** "NONE if the history is empty" */
    private static void emptyAtFirst() {
        MillComplaints desk = new MillComplaints();
        Due.due("states", desk.count(10), 0);
        Due.due("undo", desk.undo(), -5);
        Due.due("undo again", desk.undo(), -5);
        Due.due("states", desk.count(10), 0);
        Due.same("nothing is changed", Told.of(desk), Told.of(new MillComplaints()));
    }

    /** "A history of at most 4 states is kept" */
    private static void atMostFourStates() {
        MillComplaints desk = new MillComplaints();
        for (int house = 0; house < 10; house++) {
            Due.due("house", desk.house(house), house);
            Due.due("states", desk.count(10), house < 3 ? house + 1 : 4);
        }
        Due.due("restored one by one", desk.undo(), 3);
        Due.due("restored one by one", desk.undo(), 2);
        Due.due("restored one by one", desk.undo(), 1);
        Due.due("restored one by one", desk.undo(), 0);
        Due.due("no more", desk.undo(), -5);
        Due.due("houses", desk.count(1), 6);
    }

    /** "when one more is recorded, the oldest one is dropped" */
    private static void theOldestOneIsDropped() {
        for (int acts = 1; acts <= 9; acts++) {
            MillComplaints desk = new MillComplaints();
            for (int house = 0; house < acts; house++) {
                desk.house(house);
            }
            int states = acts < 4 ? acts : 4;
            for (int left = states - 1; left >= 0; left--) {
                Due.due("undo after " + acts + " acts", desk.undo(), left);
                Due.due("houses", desk.count(1), acts - states + left);
            }
            Due.due("undo", desk.undo(), -5);
            Due.due("houses", desk.count(1), acts - states);
        }
    }

    /** "undo() removes and restores the latest one": down to the empty history, in which nothing changes */
    private static void undoToTheEnd() {
        MillComplaints desk = new MillComplaints();
        desk.mill(1, 0);
        desk.house(1);
        desk.wind(0, 0, 9);
        Due.due("the wind", desk.undo(), 2);
        Due.due("the wind is 3 again", desk.noise(0, 0, 0), 6);
        Due.due("the house", desk.undo(), 1);
        Due.due("no house", desk.count(1), 0);
        Due.due("the mill", desk.undo(), 0);
        Due.due("no mill", desk.count(0), 0);
        Due.due("nothing", desk.undo(), -5);
        Due.same("as at first", Told.of(desk), Told.of(new MillComplaints()));
    }

    /** undo() is not described as an act: it records nothing, and is not undone. */
    private static void undoIsNoAct() {
        MillComplaints desk = new MillComplaints();
        desk.house(0);
        desk.house(1);
        Due.due("undo", desk.undo(), 1);
        Due.due("states", desk.count(10), 1);
        Due.due("undo", desk.undo(), 0);
        Due.due("houses", desk.count(1), 0);
    }

    private interface Act {
        int on(MillComplaints desk);
    }

    /** By three acts: a mill at (5, 4), the houses 0 and 1 beside it, the house 2 far away; one point ties; tied at 0. */
    private static MillComplaints village() {
        MillComplaints desk = new MillComplaints();
        Due.type(desk, "m5@f4;h@e4;h@g4;h@l7;w20=1");
        Due.due("doAll", desk.doAll(), 5);
        desk.set(2, 1);
        Due.due("heard", desk.complain(0, 0, 0, 0), 1);
        return desk;
    }

    private static int typeAndDo(MillComplaints desk, String text) {
        Due.type(desk, text);
        return desk.doAll();
    }

    private static void dueRecorded(String told, Act act, int answer, int more) {
        MillComplaints desk = village();
        Due.due(told, act.on(desk), answer);
        Due.due("states after " + told, desk.count(10), 3 + more);
        if (more == 0) {
            MillComplaints other = village();
            act.on(other);
            Due.same("nothing is changed by " + told, Told.of(other), Told.of(village()));
        } else {
            Due.due("undo of " + told, desk.undo(), 3);
            Due.same("undone is " + told, Told.of(desk), Told.of(village()));
        }
    }

    /** "Each call of a method that is described as an act, and returns no error and not NONE, records the state that was before it." */
    private static void eachActRecordsOneState() {
        dueRecorded("mill", desk -> desk.mill(1, 0), 1, 1);
        dueRecorded("house", desk -> desk.house(0), 3, 1);
        dueRecorded("wind", desk -> desk.wind(0, 23, 4), 24, 1);
        dueRecorded("set", desk -> desk.set(0, 0), 6, 1);
        dueRecorded("doAll", desk -> typeAndDo(desk, "w0=3;w1=4;h@a0"), 3, 1);
        dueRecorded("complain, heard", desk -> desk.complain(1, 0, 0, 1), 1, 1);
        dueRecorded("complain, refused for 4", desk -> desk.complain(1, 0, 0, 20), -14, 1);
        dueRecorded("complain, refused for 5", desk -> desk.complain(1, 0, 0, 12), -15, 1);
        dueRecorded("complain, refused for 5", desk -> desk.complain(1, 0, 1, 1), -15, 1);
        dueRecorded("complain, refused for 6", desk -> desk.complain(1, 0, 1, 12), -16, 1);
        dueRecorded("sue, not won", desk -> desk.sue(0, 0, 0), 0, 1);
        dueRecorded("vote", desk -> desk.vote(0, 0), 1, 1);
    }

    /** "A call that returns an error .. changes nothing." */
    private static void errorsRecordNothing() {
        dueRecorded("mill", desk -> desk.mill(1, 96), -1, 0);
        dueRecorded("house", desk -> desk.house(52), -4, 0);
        dueRecorded("wind", desk -> desk.wind(0, 24, 4), -1, 0);
        dueRecorded("set", desk -> desk.set(0, 21), -2, 0);
        dueRecorded("doAll, a fault", desk -> typeAndDo(desk, "w0=4;"), -105, 0);
        dueRecorded("doAll, an error", desk -> typeAndDo(desk, "w0=4;h@f4"), -4, 0);
        dueRecorded("complain, unknown", desk -> desk.complain(3, 0, 0, 0), -1, 0);
        dueRecorded("complain, bad", desk -> desk.complain(0, 0, 2, 0), -2, 0);
        dueRecorded("complain, refused for 2", desk -> desk.complain(0, 0, 0, 0), -12, 0);
        dueRecorded("complain, refused for 3", desk -> desk.complain(1, 0, 0, 0), -13, 0);
        dueRecorded("sue, unknown", desk -> desk.sue(1, 0, 0), -1, 0);
        dueRecorded("sue, not possible", desk -> desk.sue(0, 1, 0), -4, 0);
        dueRecorded("vote, unknown", desk -> desk.vote(0, 24), -1, 0);
        dueRecorded("vote, not possible", desk -> desk.vote(0, 1), -4, 0);
    }

    /** "A call that returns .. NONE changes nothing." */
    private static void noneRecordsNothing() {
        dueRecorded("wind", desk -> desk.wind(0, 19, 3), -5, 0);
        dueRecorded("set", desk -> desk.set(2, 1), -5, 0);
        dueRecorded("restore", desk -> desk.restore(), -5, 0);
        dueRecorded("yardOf", desk -> desk.yardOf(0, 0), -5, 0);
        dueRecorded("loudest", desk -> desk.loudest(0), -5, 0);
    }

    /** Methods that are not described as acts */
    private static void callsThatAreNoActsRecordNothing() {
        dueRecorded("type", desk -> desk.type('x'), 27, 0);
        dueRecorded("clearText", desk -> desk.clearText(), 26, 0);
        dueRecorded("fault", desk -> desk.fault(), -5, 0);
        dueRecorded("keep", desk -> desk.keep(), 3, 0);
        dueRecorded("millOf", desk -> desk.millOf(0, 2), 1, 0);
        dueRecorded("houseOf", desk -> desk.houseOf(0, 3), 1, 0);
        dueRecorded("noise", desk -> desk.noise(0, 52, 1), 5, 0);
        dueRecorded("shadow", desk -> desk.shadow(0, 52, 6, 0), 1, 0);
        dueRecorded("why", desk -> desk.why(1, 0, 0, 12), 5, 0);
        dueRecorded("count", desk -> desk.count(12), 6, 0);
        dueRecorded("ground", desk -> desk.ground() < 1.0f ? 1 : 0, 1, 0);
        dueRecorded("quietHours", desk -> desk.quietHours(0), Due.hours(10, 14) | 1 << 19 | 1 << 21, 0);
        dueRecorded("bestTied", desk -> desk.bestTied(0), 1, 0);
        dueRecorded("ifVoted", desk -> desk.ifVoted(0, 0), 1, 0);
    }

    /** The places that undo() leaves are used again, in the order of the acts. */
    private static void theHistoryIsFilledAgainAfterUndo() {
        for (int undone = 1; undone <= 4; undone++) {
            for (int more = 1; more <= 6; more++) {
                MillComplaints desk = new MillComplaints();
                for (int wind = 4; wind <= 8; wind++) {
                    desk.wind(0, 0, wind);
                }
                for (int time = 0; time < undone; time++) {
                    desk.undo();
                }
                for (int wind = 0; wind < more; wind++) {
                    desk.wind(23, 23, wind == 3 ? 9 : wind);
                }
                int states = Math.min(4, 4 - undone + more);
                Due.due("states", desk.count(10), states);
                for (int left = states - 1; left >= 0; left--) {
                    Due.due("undo", desk.undo(), left);
                }
                Due.due("undo", desk.undo(), -5);
                int winds = states - more;
                Due.due("the wind of 0, " + undone + " undone, then " + more, desk.wind(0, 0, 8 - undone - Math.max(0, winds)), -5);
            }
        }
    }

    /** "There is one snapshot, empty at first."; "NONE if there is no snapshot" */
    private static void noSnapshotAtFirst() {
        MillComplaints desk = new MillComplaints();
        Due.due("restore", desk.restore(), -5);
        desk.house(0);
        Due.due("restore", desk.restore(), -5);
        Due.due("the house stays", desk.count(1), 1);
        Due.due("no act", desk.count(10), 1);
        desk.undo();
        Due.due("undo makes none", desk.restore(), -5);
    }

    /** "Takes a snapshot of the state, in place of the one that was." */
    private static void keepTakesThePlaceOfTheOneThatWas() {
        MillComplaints desk = new MillComplaints();
        desk.keep();
        desk.house(0);
        Due.due("keep", desk.keep(), 1);
        desk.house(1);
        Due.due("the latest one", desk.restore(), 1);
        desk.undo();
        desk.undo();
        desk.undo();
        Due.due("houses", desk.count(1), 0);
        Due.due("keep of an empty map", desk.keep(), 0);
        desk.house(5);
        Due.due("is a snapshot, too", desk.restore(), 0);
    }

    /** "Returns how many houses there are.": none to ten */
    private static void keepTellsHowManyHouses() {
        MillComplaints desk = new MillComplaints();
        desk.mill(1, 95);
        for (int house = 0; house < 10; house++) {
            Due.due("keep", desk.keep(), house);
            Due.due("restore", desk.restore(), house);
            desk.house(house);
        }
        Due.due("keep of ten", desk.keep(), 10);
        desk.undo();
        Due.due("restore of ten", desk.restore(), 10);
        Due.due("houses", desk.count(1), 10);
    }

    /** "Restores the state of the snapshot .. This is an act." */
    private static void restoreIsAnActAtEveryLengthOfTheHistory() {
        for (int acts = 0; acts <= 6; acts++) {
            MillComplaints desk = new MillComplaints();
            desk.keep();
            for (int house = 0; house < acts; house++) {
                desk.house(house);
            }
            Due.due("restore", desk.restore(), 0);
            Due.due("states", desk.count(10), Math.min(4, acts + 1));
            Due.due("undo", desk.undo(), Math.min(4, acts + 1) - 1);
            Due.due("houses", desk.count(1), acts);
        }
    }

    /** "which stays" */
    private static void theSnapshotStays() {
        MillComplaints desk = new MillComplaints();
        desk.house(0);
        desk.keep();
        for (int round = 0; round < 6; round++) {
            desk.house(1);
            desk.house(2);
            desk.wind(0, 23, round < 3 ? round : round + 1);
            Due.due("restore", desk.restore(), 1);
            Due.due("the wind", desk.wind(0, 23, 3), -5);
        }
    }

    /** "A state is everything but the text, the history and the snapshot." */
    private static void undoLeavesTheSnapshot() {
        MillComplaints desk = new MillComplaints();
        desk.house(0);
        desk.keep();
        desk.undo();
        Due.due("houses", desk.count(1), 0);
        Due.due("a snapshot that was kept after the act", desk.restore(), 1);
        desk.undo();
        desk.keep();
        desk.house(0);
        desk.house(1);
        desk.undo();
        desk.undo();
        Due.due("a snapshot that was kept ahead of the acts", desk.restore(), 0);
    }

    /** "everything but the text" */
    private static void restoreDoesNotTouchTheText() {
        MillComplaints desk = new MillComplaints();
        Due.type(desk, "h@a0");
        desk.keep();
        Due.due("doAll", desk.doAll(), 1);
        desk.type('x');
        Due.due("restore", desk.restore(), 0);
        Due.due("the text is longer", desk.count(11), 5);
        Due.due("and has its fault", desk.fault(), 4);
        desk.clearText();
        desk.undo();
        Due.due("the text is empty, undone or not", desk.count(11), 0);
        desk.restore();
        Due.due("the text is empty, restored or not", desk.count(11), 0);
    }

    /** It is an act, also if nothing differs: it returns no error and not NONE. */
    private static void restoreOfTheSameState() {
        MillComplaints desk = new MillComplaints();
        desk.house(0);
        desk.keep();
        Due.due("restore", desk.restore(), 1);
        Due.due("states", desk.count(10), 2);
        Due.due("restore", desk.restore(), 1);
        Due.due("states", desk.count(10), 3);
        Due.due("undo", desk.undo(), 2);
        Due.due("houses", desk.count(1), 1);
    }

    /** "everything": complaints, tied sails, vain complaints, counts, settings, winds */
    private static void aBarredHouseAndTiedSailsComeBack() {
        MillComplaints desk = barredAndTied();
        desk.keep();
        desk.wind(0, 23, 1);
        desk.vote(0, 0);
        desk.set(2, 9);
        desk.set(0, 0);
        desk.mill(1, 0);
        desk.house(1);
        Due.due("restore", desk.restore(), 3);
        Due.same("the state of the snapshot", Told.of(desk), Told.of(barredAndTied()));
        MillComplaints undone = barredAndTied();
        undone.wind(0, 23, 1);
        undone.vote(0, 0);
        undone.sue(0, 0, 0);
        undone.complain(1, 0, 0, 0);
        undone.undo();
        undone.undo();
        undone.undo();
        Due.same("the state before", Told.of(undone), Told.of(barredAndTied()));
    }

    private static MillComplaints barredAndTied() {
        MillComplaints desk = village();
        desk.complain(0, 0, 0, 12);
        desk.complain(0, 0, 0, 13);
        desk.complain(0, 0, 0, 14);
        Due.due("barred", desk.houseOf(0, 2), 1);
        return desk;
    }
}
