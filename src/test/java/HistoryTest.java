/** Promises 13 to 15: undo, keep, restore. */
public final class HistoryTest {
    public static void main(String[] args) {
        undoing();
        everythingIsUndone();
        snapshots();
        restoringIsAnAct();
        everythingIsRestored();
        otherMapsComeBack();
        Due.end();
    }

    private static void undoing() {
        MillComplaints desk = new MillComplaints();
        Due.due("undo: empty", desk.undo(), -5);
        for (int wind = 4; wind <= 9; wind++) {
            Due.due("states", desk.count(10), Math.min(4, wind - 4));
            desk.wind(0, 0, wind);
        }
        Due.due("states", desk.count(10), 4);
        for (int left = 3; left >= 0; left--) {
            Due.due("undo", desk.undo(), left);
            Due.due("the wind before", desk.wind(0, 0, left + 5), -5);
            Due.due("states", desk.count(10), left);
        }
        Due.due("undo: empty, the oldest were dropped", desk.undo(), -5);
        Due.due("the wind stays", desk.wind(0, 0, 5), -5);
        for (int round = 0; round < 7; round++) {
            desk.wind(1, 1, 1);
            desk.wind(2, 2, 1);
            desk.wind(3, 3, 1);
            Due.due("states", desk.count(10), 3);
            Due.due("undo", desk.undo(), 2);
            Due.due("undo", desk.undo(), 1);
            Due.due("the wind at 2", desk.wind(2, 2, 3), -5);
            Due.due("the wind at 1", desk.wind(1, 1, 1), -5);
            Due.due("undo", desk.undo(), 0);
            Due.due("the wind at 1", desk.wind(1, 1, 3), -5);
        }
    }

    private static MillComplaints rich() {
        MillComplaints desk = new MillComplaints();
        desk.mill(2, 30);
        desk.mill(5, 60);
        desk.house(31);
        desk.house(43);
        desk.set(0, 1);
        desk.set(1, 0);
        desk.set(2, 1);
        desk.set(3, 2);
        desk.wind(0, 3, 5);
        desk.complain(0, 0, 0, 0);
        desk.complain(0, 0, 0, 9);
        desk.complain(1, 1, 0, 1);
        desk.complain(1, 0, 1, 12);
        desk.sue(0, 0, 0);
        desk.vote(1, 1);
        desk.wind(13, 13, 0);
        return desk;
    }

    private static void change(MillComplaints desk, int act) {
        switch (act) {
            case 0: desk.mill(1, 0); break;
            case 1: desk.house(1); break;
            case 2: desk.wind(0, 23, 9); break;
            case 3: desk.set(0, 5); break;
            case 4: desk.set(1, 5); break;
            case 5: desk.set(2, 5); break;
            case 6: desk.set(3, 5); break;
            case 7: desk.complain(0, 0, 0, 20); break;
            case 8: desk.complain(0, 0, 1, 20); break;
            case 9: desk.sue(0, 0, 9); break;
            case 10: desk.vote(0, 9); break;
            default: Due.type(desk, "m3@l0;h@l1;w5=0;c00n21"); desk.doAll(); break;
        }
    }

    private static void everythingIsUndone() {
        String before = Told.of(rich());
        for (int act = 0; act <= 11; act++) {
            MillComplaints changed = rich();
            change(changed, act);
            Due.due("act " + act + " changes", Told.of(changed).equals(before) ? 1 : 0, 0);
            MillComplaints undone = rich();
            change(undone, act);
            Due.due("undo of act " + act, undone.undo(), 3);
            Due.same("act " + act + " is undone", Told.of(undone), before);
        }
    }

    private static void snapshots() {
        MillComplaints desk = new MillComplaints();
        Due.due("restore: none", desk.restore(), -5);
        Due.due("no act", desk.count(10), 0);
        Due.due("keep without houses", desk.keep(), 0);
        Due.due("keep is no act", desk.count(10), 0);
        desk.house(3);
        desk.house(4);
        Due.due("restore", desk.restore(), 0);
        Due.due("houses", desk.count(1), 0);
        Due.due("undo", desk.undo(), 2);
        Due.due("houses", desk.count(1), 2);
        Due.due("keep", desk.keep(), 2);
        desk.house(5);
        Due.due("restore", desk.restore(), 2);
        Due.due("the snapshot stays", desk.restore(), 2);
        desk.house(6);
        Due.due("it is not changed by acts", desk.restore(), 2);
        Due.due("yard 6", desk.yardOf(6, 1), -5);
        Due.due("yard 4", desk.yardOf(4, 1), 1);
    }

    private static void restoringIsAnAct() {
        MillComplaints desk = new MillComplaints();
        desk.keep();
        Due.due("restore", desk.restore(), 0);
        Due.due("is recorded, also if nothing differs", desk.count(10), 1);
        desk.type('h');
        desk.house(0);
        desk.house(1);
        desk.house(2);
        Due.due("restore", desk.restore(), 0);
        Due.due("the text stays", desk.count(11), 1);
        Due.due("the history stays, with one more", desk.count(10), 4);
        Due.due("undo", desk.undo(), 3);
        Due.due("houses", desk.count(1), 3);
        Due.due("undo", desk.undo(), 2);
        Due.due("the snapshot is not undone", desk.restore(), 0);
        MillComplaints other = new MillComplaints();
        other.house(0);
        other.keep();
        Due.due("undo ahead of keep", other.undo(), 0);
        Due.due("the snapshot stays", other.restore(), 1);
    }

    private static void otherMapsComeBack() {
        MillComplaints desk = new MillComplaints();
        desk.mill(1, 5);
        desk.house(6);
        desk.keep();
        desk.undo();
        desk.undo();
        desk.mill(2, 50);
        desk.house(60);
        Due.due("restore", desk.restore(), 1);
        Due.due("height of the snapshot", desk.millOf(0, 0), 1);
        Due.due("yard of the snapshot's mill", desk.millOf(0, 1), 5);
        Due.due("yard of the snapshot's house", desk.houseOf(0, 0), 6);
        Due.due("undo", desk.undo(), 2);
        Due.due("height of the map before", desk.millOf(0, 0), 2);
        Due.due("yard of the mill before", desk.millOf(0, 1), 50);
        Due.due("yard of the house before", desk.houseOf(0, 0), 60);
    }

    private static void everythingIsRestored() {
        String before = Told.of(rich());
        for (int act = 0; act <= 11; act++) {
            MillComplaints changed = rich();
            change(changed, act);
            Due.same("act " + act + " is gone", Told.of(changedAndRestored(act)), before);
            MillComplaints undone = changedAndRestored(act);
            Due.due("undo", undone.undo(), 3);
            Due.same("act " + act + " is back", Told.of(undone), Told.of(changed));
        }
    }

    private static MillComplaints changedAndRestored(int act) {
        MillComplaints desk = rich();
        Due.due("keep", desk.keep(), 2);
        change(desk, act);
        Due.due("restore", desk.restore(), 2);
        return desk;
    }
}
