/** "An object is used for at most 512 calls after it has been made": the last of them are answered as the first. */
public final class ManyCallsTest {
    private static final int CALLS = 512;

    public static void main(String[] args) {
        theHistoryAfterManyActs();
        theCountsAfterManyVotes();
        theTextAfterManyCharacters();
        theSnapshotAfterManyRestores();
        Due.end();
    }

    private static void theHistoryAfterManyActs() {
        MillComplaints desk = new MillComplaints();
        for (int call = 1; call <= CALLS - 5; call++) {
            Due.due("wind, call " + call, desk.wind(call % 24, call % 24, call / 24 % 2 == 0 ? 4 : 5), 1);
        }
        for (int left = 3; left >= 0; left--) {
            Due.due("undo", desk.undo(), left);
        }
        Due.due("undo, the call 512", desk.undo(), -5);
    }

    private static void theCountsAfterManyVotes() {
        MillComplaints desk = new MillComplaints();
        desk.mill(5, Due.yard(5, 4));
        desk.house(Due.yard(4, 4));
        desk.house(Due.yard(11, 7));
        desk.house(Due.yard(11, 6));
        desk.set(2, 1);
        int rounds = (CALLS - 5 - 3) / 2;
        for (int round = 1; round <= rounds; round++) {
            Due.due("heard in the round " + round, desk.complain(0, 0, 1, 8), 1);
            Due.due("untied in the round " + round, desk.vote(0, 8), 2);
        }
        Due.due("heard", desk.count(2), rounds);
        Due.due("votes", desk.count(6), rounds);
        Due.due("votes by which sails were untied, the call 512", desk.count(7), rounds);
    }

    private static void theTextAfterManyCharacters() {
        MillComplaints desk = new MillComplaints();
        int calls = 0;
        while (calls + 62 < CALLS) {
            for (int length = 1; length <= 60; length++) {
                Due.due("type", desk.type(length % 5 == 0 ? ';' : "h@a0".charAt(length % 5 - 1)), length);
            }
            Due.due("one more", desk.type(';'), -3);
            Due.due("clearText", desk.clearText(), 60);
            calls += 62;
        }
        Due.due("type", desk.type('h'), 1);
        Due.due("fault", desk.fault(), 1);
    }

    private static void theSnapshotAfterManyRestores() {
        MillComplaints desk = new MillComplaints();
        desk.house(95);
        Due.due("keep", desk.keep(), 1);
        for (int call = 3; call <= CALLS - 2; call += 2) {
            Due.due("house", desk.house(call % 95), 1);
            Due.due("restore", desk.restore(), 1);
        }
        Due.due("undo", desk.undo(), 3);
        Due.due("houses", desk.count(1), 2);
    }
}
