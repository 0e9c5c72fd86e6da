/** Promises 8, 9 and 27, sentence by sentence: the edges that the document names for counter suits and votes. */
public final class EdgesOfSuitsAndVotesTest {
    public static void main(String[] args) {
        unknownSuits();
        noSuitIfTheSailsAreNotTied();
        noSuitIfNoComplaintStands();
        theLossIsWonIfItIsMore();
        theLossCountsTheTiedHoursOfThisMill();
        theGreatestSetting3();
        noLossIsNeverWon();
        aWonSuitIsAVainComplaintMore();
        aWonSuitTakesTheComplaintsForThisHour();
        untiedIfThePointsAreFewer();
        tiedIfThePointsAreAsMany();
        theSettingThenDecides();
        aSuitThatIsNotWonChangesTheCountAlone();
        unknownVotes();
        noVoteIfTheSailsAreNotTied();
        noVoteIfThereIsNoHouse();
        halfOfAllHousesIsNotEnough();
        moreThanHalfUntie();
        votesOfOneHouse();
        eachHouseVotesUnlessTroubled();
        ifTheSailsWereNotTied();
        allComplaintsForThisHourAreGone();
        aVoteThatDoesNotUntieChangesTheCountAlone();
        ifVotedTellsWhatAVoteTells();
        Due.end();
    }

    private static final int[] NOT_0 = {-1, 1, 4, Integer.MIN_VALUE, Integer.MAX_VALUE};
    private static final int[] NO_HOURS = {-1, 24, Integer.MIN_VALUE, Integer.MAX_VALUE};

    /** A mill of height 5 at (5, 4), with a house to its west; one point ties. */
    private static MillComplaints village() {
        MillComplaints desk = new MillComplaints();
        desk.mill(5, Due.yard(5, 4));
        desk.house(Due.yard(4, 4));
        desk.set(2, 1);
        return desk;
    }

    /** The sails tied from the hour 0 on, in so many hours, by complaints of the house 0 by noise. */
    private static MillComplaints tiedIn(int hours) {
        MillComplaints desk = village();
        desk.set(0, 0);
        desk.set(1, 0);
        for (int hour = 0; hour < hours; hour++) {
            Due.due("complaint for " + hour, desk.complain(0, 0, 0, hour), 1);
        }
        return desk;
    }

    /** "mill: 0 or more; house: 0 or more; hour: 0 to 23 .. UNKNOWN" */
    private static void unknownSuits() {
        MillComplaints desk = tiedIn(1);
        for (int other : NOT_0) {
            Due.due("no mill " + other, desk.sue(other, 0, 0), -1);
            Due.due("no house " + other, desk.sue(0, other, 0), -1);
            Due.due("no mill, and not tied", desk.sue(other, 0, 1), -1);
            Due.due("no house, and not tied", desk.sue(0, other, 1), -1);
        }
        for (int hour : NO_HOURS) {
            Due.due("no hour " + hour, desk.sue(0, 0, hour), -1);
        }
        Due.due("no suit", desk.count(4), 0);
        Due.due("on an empty map", new MillComplaints().sue(0, 0, 0), -1);
    }

    /** "NOT_POSSIBLE if the sails are not tied" */
    private static void noSuitIfTheSailsAreNotTied() {
        MillComplaints desk = village();
        desk.set(2, 2);
        Due.due("no complaint, not tied", desk.sue(0, 0, 0), -4);
        Due.due("a complaint", desk.complain(0, 0, 0, 0), 1);
        Due.due("not tied", desk.sue(0, 0, 0), -4);
        Due.due("no suit", desk.count(4), 0);
        desk.set(2, 1);
        Due.due("not tied by the setting", desk.sue(0, 0, 0), -4);
    }

    /** "or no complaint of the house against the mill for this hour stands" */
    private static void noSuitIfNoComplaintStands() {
        MillComplaints desk = village();
        desk.house(Due.yard(6, 4));
        desk.mill(5, Due.yard(5, 3));
        desk.complain(0, 0, 0, 0);
        desk.complain(1, 0, 0, 1);
        desk.complain(1, 1, 0, 0);
        Due.due("of another house", desk.sue(0, 1, 0), -4);
        Due.due("for another hour", desk.sue(0, 0, 1), -4);
        Due.due("against another mill", desk.sue(1, 0, 0), -4);
        Due.due("no suit", desk.count(4), 0);
        desk.set(3, 0);
        Due.due("one that stands", desk.sue(0, 0, 0), 1);
        Due.due("one that is gone, untied", desk.sue(0, 0, 0), -4);
        MillComplaints refused = village();
        refused.house(Due.yard(6, 4));
        refused.complain(0, 0, 0, 0);
        Due.due("refused", refused.complain(1, 0, 0, 0), -13);
        Due.due("one that was refused", refused.sue(0, 1, 0), -4);
    }

    /** "The suit is won if the loss is more than the setting 3" */
    private static void theLossIsWonIfItIsMore() {
        int[][] rows = {{7, 1}, {8, 1}, {9, 0}, {10, 0}, {99, 0}, {0, 1}};
        for (int[] row : rows) {
            MillComplaints desk = tiedIn(3);
            desk.set(3, row[0]);
            Due.due("a loss of 3 * 3, setting " + row[0], desk.sue(0, 0, 1), row[1]);
            Due.due("suits", desk.count(4), 1);
            Due.due("won", desk.count(5), row[1]);
        }
    }

    /** "The loss is the wind of the hour times the hours in which the sails of this mill are tied, together." */
    private static void theLossCountsTheTiedHoursOfThisMill() {
        MillComplaints desk = tiedIn(2);
        desk.mill(5, Due.yard(5, 3));
        desk.complain(0, 1, 0, 0);
        desk.complain(0, 1, 0, 2);
        desk.wind(0, 0, 5);
        desk.set(3, 10);
        Due.due("5 * 2: another mill's hours do not count", desk.sue(0, 0, 0), 0);
        desk.set(3, 5);
        Due.due("3 * 2, by the wind of 1", desk.sue(0, 0, 1), 1);
        Due.due("5 * 1: the hour that is untied counts no more", desk.sue(0, 0, 0), 0);
        desk.wind(0, 0, 6);
        Due.due("6 * 1, by the wind that is then", desk.sue(0, 0, 0), 1);
    }

    /** "3 the loss by which a counter suit is won (0 to 99; 8)": 99 */
    private static void theGreatestSetting3() {
        MillComplaints desk = tiedIn(11);
        desk.set(3, 99);
        desk.wind(0, 0, 9);
        Due.due("9 * 11 is not more than 99", desk.sue(0, 0, 0), 0);
        Due.due("a twelfth hour", desk.complain(0, 0, 0, 11), 1);
        Due.due("9 * 12 is more", desk.sue(0, 0, 0), 1);
        MillComplaints all = tiedIn(24);
        all.set(3, 99);
        all.wind(23, 23, 9);
        Due.due("all hours are tied", all.millOf(0, 2), Due.hours(0, 23));
        Due.due("3 * 24", all.sue(0, 0, 22), 0);
        Due.due("9 * 24", all.sue(0, 0, 23), 1);
        Due.due("untied", all.millOf(0, 2), Due.hours(0, 22));
    }

    /** A loss of 0 is not more than the setting 0. */
    private static void noLossIsNeverWon() {
        MillComplaints desk = tiedIn(2);
        desk.set(3, 0);
        desk.wind(0, 0, 0);
        Due.due("a loss of 0", desk.sue(0, 0, 0), 0);
        desk.wind(0, 0, 1);
        Due.due("a loss of 2", desk.sue(0, 0, 0), 1);
    }

    /** "then the house has a vain complaint more": the third one bars */
    private static void aWonSuitIsAVainComplaintMore() {
        MillComplaints desk = tiedIn(4);
        desk.set(3, 0);
        desk.complain(0, 0, 1, 12);
        for (int hour = 0; hour < 4; hour++) {
            Due.due("vain", desk.houseOf(0, 1), hour + 1);
            Due.due("barred", desk.houseOf(0, 2), hour >= 2 ? 1 : 0);
            Due.due("suit for " + hour, desk.sue(0, 0, hour), 1);
        }
        Due.due("more than 3", desk.houseOf(0, 1), 5);
        Due.due("barred", desk.complain(0, 0, 0, 0), -11);
        Due.due("suits are no refusals", desk.count(3), 1);
        Due.due("undo", desk.undo(), 3);
        Due.due("vain", desk.houseOf(0, 1), 4);
    }

    /** "and its complaints against the mill for this hour are gone, with their points" */
    private static void aWonSuitTakesTheComplaintsForThisHour() {
        MillComplaints desk = village();
        desk.house(Due.yard(6, 4));
        desk.mill(5, Due.yard(5, 3));
        desk.set(0, 0);
        desk.set(2, 4);
        Due.due("by noise", desk.complain(0, 0, 0, 6), 1);
        Due.due("by shadow", desk.complain(0, 0, 1, 6), 2);
        Due.due("for another hour", desk.complain(0, 0, 0, 7), 1);
        Due.due("against another mill", desk.complain(0, 1, 0, 6), 1);
        desk.set(2, 3);
        Due.due("of another house, which ties", desk.complain(1, 0, 0, 6), 3);
        desk.set(3, 2);
        Due.due("suit", desk.sue(0, 0, 6), 1);
        Due.due("two of four are gone", desk.houseOf(0, 3), 2);
        Due.due("the other house's stands", desk.houseOf(1, 3), 1);
        Due.due("points", desk.millOf(0, 5), 2);
        Due.due("points of the other mill", desk.millOf(1, 5), 1);
        Due.due("1 is fewer than 3", desk.millOf(0, 2), 0);
        Due.due("one vain complaint, not two", desk.houseOf(0, 1), 1);
        Due.due("heard so far", desk.count(2), 5);
        Due.due("by noise again", desk.complain(0, 0, 0, 6), 2);
    }

    private static MillComplaints tiedByTwo() {
        MillComplaints desk = village();
        desk.house(Due.yard(6, 4));
        desk.set(2, 2);
        desk.set(3, 0);
        desk.complain(0, 0, 0, 0);
        Due.due("2 points", desk.complain(1, 0, 0, 0), 2);
        return desk;
    }

    /** "the sails are untied in this hour, if the points are fewer than the setting 2 then" */
    private static void untiedIfThePointsAreFewer() {
        MillComplaints desk = tiedByTwo();
        Due.due("suit", desk.sue(0, 0, 0), 1);
        Due.due("1 is fewer than 2", desk.millOf(0, 2), 0);
        Due.due("the other complaint stands", desk.houseOf(1, 3), 1);
        Due.due("but the sails are not tied", desk.sue(0, 1, 0), -4);
    }

    /** The points that are left are as many as the setting 2: not fewer. */
    private static void tiedIfThePointsAreAsMany() {
        MillComplaints desk = tiedByTwo();
        desk.set(2, 1);
        Due.due("suit", desk.sue(0, 0, 0), 1);
        Due.due("1 is not fewer than 1", desk.millOf(0, 2), 1);
        Due.due("the next suit", desk.sue(0, 1, 0), 1);
        Due.due("0 is fewer than 1", desk.millOf(0, 2), 0);
    }

    /** "then": as the setting is at the suit, not as it was when the sails were tied */
    private static void theSettingThenDecides() {
        MillComplaints desk = tiedByTwo();
        desk.set(2, 9);
        Due.due("tied, by an earlier setting", desk.millOf(0, 2), 1);
        Due.due("suit", desk.sue(0, 0, 0), 1);
        Due.due("1 is fewer than 9", desk.millOf(0, 2), 0);
    }

    /** "A suit that is not won changes nothing but the count of suits." */
    private static void aSuitThatIsNotWonChangesTheCountAlone() {
        MillComplaints desk = tiedIn(2);
        MillComplaints other = tiedIn(2);
        Due.due("6 is not more than 8", other.sue(0, 0, 0), 0);
        String due = Told.of(desk).replaceFirst("^1 1 2 0 0 0 ", "1 1 2 0 1 0 ");
        Due.same("the count of suits alone", Told.of(other), due);
        MillComplaints undone = tiedIn(2);
        undone.sue(0, 0, 0);
        Due.due("it is an act", undone.undo(), 3);
        Due.due("suits", undone.count(4), 0);
    }

    /** "mill: 0 or more; hour: 0 to 23 .. UNKNOWN" */
    private static void unknownVotes() {
        MillComplaints desk = tiedIn(1);
        for (int other : NOT_0) {
            Due.due("vote: no mill " + other, desk.vote(other, 0), -1);
            Due.due("ifVoted: no mill " + other, desk.ifVoted(other, 0), -1);
        }
        for (int hour : NO_HOURS) {
            Due.due("vote: no hour " + hour, desk.vote(0, hour), -1);
            Due.due("ifVoted: no hour " + hour, desk.ifVoted(0, hour), -1);
        }
        Due.due("no vote", desk.count(6), 0);
        Due.due("on an empty map", new MillComplaints().vote(0, 0), -1);
        Due.due("on an empty map", new MillComplaints().ifVoted(0, 0), -1);
    }

    /** "NOT_POSSIBLE if the sails are not tied" */
    private static void noVoteIfTheSailsAreNotTied() {
        MillComplaints desk = tiedIn(1);
        desk.mill(1, 0);
        Due.due("in another hour", desk.vote(0, 1), -4);
        Due.due("of another mill", desk.vote(1, 0), -4);
        Due.due("no vote", desk.count(6), 0);
        desk.wind(0, 0, 1);
        Due.due("tied", desk.vote(0, 0), 1);
        Due.due("untied", desk.vote(0, 0), -4);
        Due.due("votes", desk.count(6), 1);
    }

    /** "or there is no house" */
    private static void noVoteIfThereIsNoHouse() {
        MillComplaints desk = new MillComplaints();
        desk.mill(1, 0);
        Due.due("vote", desk.vote(0, 0), -4);
        Due.due("ifVoted", desk.ifVoted(0, 0), 0);
        Due.due("no act", desk.count(10), 1);
    }

    /** A mill at (0, 0) with houses beside it, whom it troubles at night, and houses far away; tied at 0. */
    private static MillComplaints divided(int near, int far) {
        int[] nearYards = {1, 12, 13, 2, 14, 24};
        MillComplaints desk = new MillComplaints();
        desk.mill(1, 0);
        for (int house = 0; house < near; house++) {
            desk.house(nearYards[house]);
        }
        for (int house = 0; house < far; house++) {
            desk.house(95 - house);
        }
        desk.set(2, 1);
        Due.due("tied", desk.complain(0, 0, 0, 0), 1);
        return desk;
    }

    /** "If more than half of all houses vote for it": just half is not more */
    private static void halfOfAllHousesIsNotEnough() {
        for (int half = 1; half <= 5; half++) {
            MillComplaints desk = divided(half, half);
            Due.due(half + " of " + 2 * half, desk.vote(0, 0), half);
            Due.due("tied", desk.millOf(0, 2), 1);
            Due.due("votes", desk.count(6), 1);
            Due.due("votes by which sails were untied", desk.count(7), 0);
        }
        MillComplaints fewer = divided(3, 2);
        Due.due("2 of 5", fewer.vote(0, 0), 2);
        Due.due("tied", fewer.millOf(0, 2), 1);
    }

    /** "the sails are untied" */
    private static void moreThanHalfUntie() {
        for (int half = 1; half <= 4; half++) {
            MillComplaints odd = divided(half, half + 1);
            Due.due((half + 1) + " of " + (2 * half + 1), odd.vote(0, 0), half + 1);
            Due.due("untied", odd.millOf(0, 2), 0);
            Due.due("votes by which sails were untied", odd.count(7), 1);
            MillComplaints even = divided(half, half + 2);
            Due.due((half + 2) + " of " + (2 * half + 2), even.vote(0, 0), half + 2);
            Due.due("untied", even.millOf(0, 2), 0);
        }
        MillComplaints most = divided(1, 9);
        Due.due("9 of 10", most.vote(0, 0), 9);
        Due.due("untied", most.millOf(0, 2), 0);
    }

    /** Of one house: all or none */
    private static void votesOfOneHouse() {
        MillComplaints desk = divided(1, 0);
        Due.due("0 of 1", desk.vote(0, 0), 0);
        Due.due("tied", desk.millOf(0, 2), 1);
        desk.set(1, 20);
        Due.due("1 of 1", desk.vote(0, 0), 1);
        Due.due("untied", desk.millOf(0, 2), 0);
        Due.due("votes", desk.count(6), 2);
        Due.due("votes by which sails were untied", desk.count(7), 1);
    }

    /** "each house votes for untying, unless it would be troubled by the mill in this hour, by noise or by shadow" */
    private static void eachHouseVotesUnlessTroubled() {
        MillComplaints desk = new MillComplaints();
        desk.mill(3, Due.yard(5, 4));
        desk.house(Due.yard(4, 4));
        desk.house(Due.yard(6, 4));
        desk.house(Due.yard(0, 4));
        desk.house(Due.yard(0, 0));
        desk.mill(5, Due.yard(1, 0));
        desk.set(0, 4);
        Due.due("at 7: both, by noise, by shadow, not at all", desk.ifVoted(0, 7), 1);
        Due.due("at 8: both, by noise, by shadow, not at all", desk.ifVoted(0, 8), 1);
        Due.due("at 9: the shadow is 5 yards long, and reaches the third", desk.ifVoted(0, 9), 1);
        Due.due("at 10: two by noise alone", desk.ifVoted(0, 10), 2);
        desk.set(0, 5);
        Due.due("at 7: by shadow, by shadow; 5 is borne", desk.ifVoted(0, 7), 2);
        Due.due("at 12: none", desk.ifVoted(0, 12), 4);
        Due.due("of the other mill at 7", desk.ifVoted(1, 7), 3);
    }

    /** "if the sails were not tied": the wind and the settings as they are then */
    private static void ifTheSailsWereNotTied() {
        MillComplaints desk = divided(2, 1);
        Due.due("1 of 3 while tied", desk.ifVoted(0, 0), 1);
        desk.wind(0, 0, 1);
        Due.due("by the wind 1 it would not turn", desk.ifVoted(0, 0), 3);
        desk.wind(0, 0, 2);
        Due.due("by the wind 2 the noise is 3, which is borne", desk.ifVoted(0, 0), 3);
        desk.set(1, 2);
        Due.due("and is more than 2", desk.ifVoted(0, 0), 1);
        Due.due("not untied by the question", desk.millOf(0, 2), 1);
    }

    /** "and all complaints against the mill for this hour are gone, with the points" */
    private static void allComplaintsForThisHourAreGone() {
        MillComplaints desk = new MillComplaints();
        desk.mill(5, Due.yard(5, 4));
        desk.mill(5, Due.yard(5, 5));
        desk.house(Due.yard(4, 4));
        desk.house(Due.yard(6, 4));
        desk.house(Due.yard(6, 3));
        desk.set(0, 0);
        desk.set(2, 4);
        Due.due("0 by noise", desk.complain(0, 0, 0, 6), 1);
        Due.due("1 by noise", desk.complain(1, 0, 0, 6), 2);
        Due.due("0 against another mill", desk.complain(0, 1, 0, 6), 1);
        Due.due("1 for another hour", desk.complain(1, 0, 0, 7), 1);
        Due.due("2 by noise", desk.complain(2, 0, 0, 6), 3);
        Due.due("0 by shadow, which ties", desk.complain(0, 0, 1, 6), 4);
        desk.set(0, 20);
        Due.due("2 of 3", desk.vote(0, 6), 2);
        Due.due("untied", desk.millOf(0, 2), 0);
        Due.due("of 0 the one against the other mill stands", desk.houseOf(0, 3), 1);
        Due.due("of 1 the one for the other hour stands", desk.houseOf(1, 3), 1);
        Due.due("of 2 none stands", desk.houseOf(2, 3), 0);
        Due.due("points", desk.millOf(0, 5), 1);
        Due.due("points of the other mill", desk.millOf(1, 5), 1);
        Due.due("none was in vain", desk.houseOf(0, 1) + desk.houseOf(1, 1) + desk.houseOf(2, 1), 0);
        Due.due("heard so far", desk.count(2), 6);
        Due.due("the points begin anew", desk.complain(0, 0, 1, 6), 1);
    }

    /** A vote of half or less changes nothing but the count of votes. */
    private static void aVoteThatDoesNotUntieChangesTheCountAlone() {
        MillComplaints desk = divided(2, 2);
        MillComplaints other = divided(2, 2);
        Due.due("2 of 4", other.vote(0, 0), 2);
        String due = Told.of(desk).replaceFirst("^1 4 1 0 0 0 0 0 ", "1 4 1 0 0 0 1 0 ");
        Due.same("the count of votes alone", Told.of(other), due);
        MillComplaints undone = divided(2, 2);
        undone.vote(0, 0);
        Due.due("it is an act", undone.undo(), 3);
        Due.due("votes", undone.count(6), 0);
    }

    /** "Tells how many votes would be for untying .. whether they are tied or not." */
    private static void ifVotedTellsWhatAVoteTells() {
        for (int near = 1; near <= 6; near++) {
            for (int far = 0; far <= 4; far++) {
                MillComplaints desk = divided(near, far);
                Due.due("ifVoted", desk.ifVoted(0, 0), far);
                Due.due("vote", desk.vote(0, 0), far);
                Due.due("ifVoted then", desk.ifVoted(0, 0), far);
                Due.due("in an hour that is not tied", desk.ifVoted(0, 1), far);
                Due.due("by day", desk.ifVoted(0, 12), near + far);
                Due.due("one vote", desk.count(6), 1);
            }
        }
    }
}
