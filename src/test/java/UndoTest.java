/** Promises 14 to 16: undo, keep, restore. */
public final class UndoTest {
    private static final Check check = new Check("UndoTest");

    public static void main(String[] args) {
        undo();
        undoBringsAllBack();
        snapshot();
        snapshotIsNoPartOfAState();
        whatSaves();
        check.end();
    }

    private static void undo() {
        TideMills mills = new TideMills();
        for (int hour = 1; hour <= 9; hour++) {
            mills.pass(1);
            check.due("saved states", Math.min(hour, 6), mills.count(14));
        }
        for (int left = 5; left >= 0; left--) {
            check.due("undo", left, mills.undo());
            check.due("hour", left + 3, mills.count(0));
        }
        check.dueThrow("a seventh undo", mills, IllegalStateException.class, mills::undo);
        check.due("hour", 3, mills.count(0));
        mills.pass(2);
        check.due("undo", 0, mills.undo());
        check.due("hour", 3, mills.count(0));
    }

    /** The digest tells but for the saved states, which are as many again. */
    private static void undoBringsAllBack() {
        TideMills mills = new TideMills();
        mills.sack(0, 400, 20);
        mills.sack(1, 30, 2);
        mills.sack(1, 999, 30);
        mills.pass(5);
        mills.pass(1);
        mills.undo();
        long before = mills.digest();
        mills.pass(9);
        mills.undo();
        check.due("hardness behind pass", 400, mills.sackOf(0, 1));
        check.due("when it is due behind pass", 20, mills.sackOf(0, 3));
        check.due("digest behind pass", 0, before - mills.digest());
        mills.carry(2, 0);
        mills.undo();
        check.due("digest behind carry", 0, before - mills.digest());
        mills.back(2);
        mills.undo();
        check.due("digest behind back", 0, before - mills.digest());
        mills.sack(2, 7, 7);
        mills.undo();
        check.due("digest behind sack", 0, before - mills.digest());
        mills.gear(1, 30, 30);
        mills.undo();
        mills.gate(1, 1, 10);
        mills.undo();
        mills.pond(1, 321, 32);
        mills.undo();
        check.due("digest behind mills", 0, before - mills.digest());
        for (int setting = 0; setting < 3; setting++) {
            mills.set(setting, 13);
            mills.undo();
        }
        check.due("digest behind set", 0, before - mills.digest());
    }

    private static void snapshot() {
        TideMills mills = new TideMills();
        mills.sack(3, 500, 40);
        mills.pass(4);
        check.due("keep", 4, mills.keep());
        check.due("saved states", 2, mills.count(14));
        int rest = mills.sackOf(0, 2);
        mills.pass(10);
        mills.set(1, 0);
        check.due("restore", 4, mills.restore());
        check.due("hour", 4, mills.count(0));
        check.due("rest", rest, mills.sackOf(0, 2));
        check.due("setting", 20, mills.count(12));
        check.due("saved states", 5, mills.count(14));
        mills.pass(1);
        check.due("restore again", 4, mills.restore());
        check.due("undo of restore", 5, mills.undo());
        check.due("hour", 5, mills.count(0));
        check.due("keep in its place", 5, mills.keep());
        mills.pass(1);
        check.due("restore of the second", 5, mills.restore());
        check.due("restore without a change", 5, mills.restore());
        check.due("saved states", 6, mills.count(14));
    }

    private static void snapshotIsNoPartOfAState() {
        TideMills mills = new TideMills();
        mills.pass(1);
        check.dueThrow("restore without one", mills, IllegalStateException.class, mills::restore);
        mills.keep();
        mills.append('s');
        mills.undo();
        check.due("restore behind undo", 1, mills.restore());
        check.due("saved states stay saved", 1, mills.count(14));
        check.due("the buffer stays", 1, mills.clearBuffer());
    }

    private static void whatSaves() {
        TideMills mills = new TideMills();
        mills.append('+');
        mills.firstError();
        mills.clearBuffer();
        mills.keep();
        mills.ifPassed(4, 0);
        mills.digest();
        check.due("saved states", 0, mills.count(14));
        mills.set(0, 10);
        check.due("a set that changes nothing saves", 1, mills.count(14));
        mills.gear(0, 40, 10);
        mills.pond(0, 200, 20);
        mills.gate(0, 0, 11);
        check.due("so do the others", 4, mills.count(14));
    }
}
