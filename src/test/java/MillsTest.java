/** Promises 1 to 6: a new object, pond, gate, gear, set, pass. */
public final class MillsTest {
    private static final Check check = new Check("MillsTest");

    public static void main(String[] args) {
        newObject();
        pond();
        gate();
        gear();
        set();
        pass();
        fillsOverTheSill();
        turnsByDueThenHeadThenNumber();
        grindsAndLosesWhatIsLeft();
        leastHeadAndWater();
        late();
        headIsRoundedDown();
        check.end();
    }

    private static void newObject() {
        TideMills mills = new TideMills();
        int[] counts = {0, -1, 0, 0, 0, 0, 0, 0, 0, 0, 0, 10, 20, 20, 0};
        for (int what = 0; what < counts.length; what++) {
            check.due("new: count(" + what + ")", counts[what], mills.count(what));
        }
        int[] numbers = {200, 0, 20, 0, 11, 40, 10, 0, 940, 0, 0};
        for (int mill = 0; mill < 5; mill++) {
            for (int what = 0; what < numbers.length; what++) {
                check.due("new: mill(" + mill + ", " + what + ")", numbers[what], mills.mill(mill, what));
            }
            check.due("new: whyNot(" + mill + ")", 1, mills.whyNot(mill));
            check.due("new: sackAt", TideMills.NONE, mills.sackAt(mill, 0));
        }
        check.due("NONE", -1, TideMills.NONE);
        check.due("new: firstError", 0, mills.firstError());
        check.due("new: clearBuffer", 0, mills.clearBuffer());
        check.dueThrow("new: undo", mills, IllegalStateException.class, mills::undo);
        check.dueThrow("new: restore", mills, IllegalStateException.class, mills::restore);
    }

    private static void pond() {
        TideMills mills = new TideMills();
        check.due("pond(4, 500, 60)", 200, mills.pond(4, 500, 60));
        check.due("pond(4, 50, 0)", 500, mills.pond(4, 50, 0));
        check.due("its capacity", 50, mills.mill(4, 0));
        check.due("its sill", 0, mills.mill(4, 2));
        check.due("the other's capacity", 200, mills.mill(3, 0));
        check.due("saved states", 2, mills.count(14));
        mills.pass(1);
        check.due("water of mill 0", 60, mills.mill(0, 1));
        check.due("water of mill 4", 50, mills.mill(4, 1));
        check.dueThrow("pond below its water", mills, IllegalStateException.class, () -> mills.pond(0, 59, 20));
        check.dueThrow("pond(0, 49, 0) with more water", mills, IllegalArgumentException.class,
                () -> mills.pond(0, 49, 0));
        check.due("pond at its water", 200, mills.pond(0, 60, 20));
        check.dueThrow("pond(5, 49, -1)", mills, IndexOutOfBoundsException.class, () -> mills.pond(5, 49, -1));
        check.dueThrow("pond(-1, 50, 0)", mills, IndexOutOfBoundsException.class, () -> mills.pond(-1, 50, 0));
        check.dueThrow("pond(1, 501, 0)", mills, IllegalArgumentException.class, () -> mills.pond(1, 501, 0));
        check.dueThrow("pond(1, 100, -1)", mills, IllegalArgumentException.class, () -> mills.pond(1, 100, -1));
        check.dueThrow("pond(1, 100, 61)", mills, IllegalArgumentException.class, () -> mills.pond(1, 100, 61));
        check.due("undo of pond", 3, mills.undo());
        check.due("capacity behind undo", 200, mills.mill(0, 0));
    }

    private static void gate() {
        TideMills mills = new TideMills();
        check.due("gate(0, 3, 4)", 12, mills.gate(0, 3, 4));
        check.due("gate(0, 3, 3)", 2, mills.gate(0, 3, 3));
        check.due("first hour", 3, mills.mill(0, 3));
        check.due("last hour", 3, mills.mill(0, 4));
        mills.pass(2);
        check.due("water behind a shut gate", 0, mills.mill(0, 1));
        mills.pass(1);
        check.due("water in the hour 3", 20, mills.mill(0, 1));
        mills.pass(11);
        check.due("water in the hour 14", 20, mills.mill(0, 1));
        mills.pass(1);
        check.due("water in the hour 15", 40, mills.mill(0, 1));
        check.due("gate(1, 11, 11)", 12, mills.gate(1, 11, 11));
        check.due("gate(1, 0, 0)", 1, mills.gate(1, 0, 0));
        check.dueThrow("gate(5, 0, 0)", mills, IndexOutOfBoundsException.class, () -> mills.gate(5, 12, 0));
        check.dueThrow("gate(-1, 0, 0)", mills, IndexOutOfBoundsException.class, () -> mills.gate(-1, 0, 0));
        check.dueThrow("gate(0, -1, 0)", mills, IllegalArgumentException.class, () -> mills.gate(0, -1, 0));
        check.dueThrow("gate(0, 12, 12)", mills, IllegalArgumentException.class, () -> mills.gate(0, 12, 12));
        check.dueThrow("gate(0, 5, 4)", mills, IllegalArgumentException.class, () -> mills.gate(0, 5, 4));
        check.dueThrow("gate(0, 5, 12)", mills, IllegalArgumentException.class, () -> mills.gate(0, 5, 12));
        mills.undo();
        check.due("gate behind undo", 11, mills.mill(1, 3));
    }

    private static void gear() {
        TideMills mills = new TideMills();
        check.due("gear(0, 60, 8)", 750, mills.gear(0, 60, 8));
        check.due("gear(0, 8, 60)", 13, mills.gear(0, 8, 60));
        check.due("wheel", 8, mills.mill(0, 5));
        check.due("stone", 60, mills.mill(0, 6));
        check.dueThrow("gear(5, 7, 8)", mills, IndexOutOfBoundsException.class, () -> mills.gear(5, 7, 8));
        check.dueThrow("gear(-1, 8, 8)", mills, IndexOutOfBoundsException.class, () -> mills.gear(-1, 8, 8));
        check.dueThrow("gear(0, 7, 8)", mills, IllegalArgumentException.class, () -> mills.gear(0, 7, 8));
        check.dueThrow("gear(0, 61, 8)", mills, IllegalArgumentException.class, () -> mills.gear(0, 61, 8));
        check.dueThrow("gear(0, 8, 7)", mills, IllegalArgumentException.class, () -> mills.gear(0, 8, 7));
        check.dueThrow("gear(0, 8, 61)", mills, IllegalArgumentException.class, () -> mills.gear(0, 8, 61));
        mills.undo();
        check.due("wheel behind undo", 60, mills.mill(0, 5));
    }

    private static void set() {
        TideMills mills = new TideMills();
        int[] first = {10, 20, 20};
        int[] least = {1, 0, 5};
        int[] most = {15, 100, 100};
        for (int setting = 0; setting < 3; setting++) {
            int its = setting;
            check.due("set to its least", first[its], mills.set(its, least[its]));
            check.due("set to its most", least[its], mills.set(its, most[its]));
            check.due("setting " + its, most[its], mills.count(11 + its));
            check.dueThrow("set below", mills, IllegalArgumentException.class, () -> mills.set(its, least[its] - 1));
            check.dueThrow("set above", mills, IllegalArgumentException.class, () -> mills.set(its, most[its] + 1));
        }
        check.dueThrow("set(3, 0)", mills, IndexOutOfBoundsException.class, () -> mills.set(3, -1));
        check.dueThrow("set(-1, 0)", mills, IndexOutOfBoundsException.class, () -> mills.set(-1, 20));
        check.due("saved states", 6, mills.count(14));
        mills.undo();
        check.due("setting behind undo", 5, mills.count(13));
    }

    private static void pass() {
        TideMills mills = new TideMills();
        mills.sack(0, 10, 5);
        check.due("pass(48)", 1, mills.pass(48));
        check.due("hour", 48, mills.count(0));
        check.due("pass(1)", 0, mills.pass(1));
        check.due("hour", 49, mills.count(0));
        check.due("idle hours", 48, mills.count(2));
        check.due("saved states", 3, mills.count(14));
        check.dueThrow("pass(0)", mills, IllegalArgumentException.class, () -> mills.pass(0));
        check.dueThrow("pass(49)", mills, IllegalArgumentException.class, () -> mills.pass(49));
        mills.undo();
        check.due("hour behind one undo", 48, mills.count(0));
        mills.undo();
        check.due("hour behind two", 0, mills.count(0));
        check.due("sacks behind two", 1, mills.count(7));
    }

    private static void fillsOverTheSill() {
        TideMills mills = new TideMills();
        mills.pond(1, 200, 50);
        mills.pond(2, 200, 49);
        mills.pass(1);
        check.due("tide 50 at a sill of 20", 60, mills.mill(0, 1));
        check.due("tide 50 at a sill of 50", 0, mills.mill(1, 1));
        check.due("tide 50 at a sill of 49", 2, mills.mill(2, 1));
        check.due("water that came", 182, mills.count(3));
        check.due("water in ponds", 182, mills.count(5));
        mills.pass(8);
        check.due("keeps its water", 140, mills.mill(0, 1));
        mills.pass(2);
        check.due("fills up", 200, mills.mill(0, 1));
        mills.pass(1);
        check.due("gets but what it has room for", 200, mills.mill(0, 1));
        check.due("in the hour 12 over the sill", 20, mills.mill(1, 1));
    }

    private static void turnsByDueThenHeadThenNumber() {
        TideMills mills = new TideMills();
        for (int mill = 0; mill < 5; mill++) {
            mills.sack(mill, 999, mill == 2 ? 50 : 60);
        }
        mills.pond(4, 150, 20);
        mills.pass(3);
        check.due("the earliest due", 2, mills.count(1));
        mills.carry(2, 0);
        mills.back(2);
        mills.pass(1);
        check.due("the greatest head", 4, mills.count(1));
        mills.back(4);
        mills.pass(1);
        check.due("the lowest", 0, mills.count(1));
        check.due("turned so far", 1, mills.mill(0, 9));
        check.due("water used, also by mill 4 alone in the hour 2", 80, mills.count(4));
        check.due("idle hours", 1, mills.count(2));
    }

    private static void grindsAndLosesWhatIsLeft() {
        TideMills mills = new TideMills();
        mills.sack(0, 50, 10);
        mills.sack(0, 70, 10);
        check.due("120 turns for 50 and 70", 2, mills.pass(3));
        check.due("ground by it", 2, mills.mill(0, 10));
        check.due("water behind", 100, mills.mill(0, 1));
        check.due("the mill that turned", 0, mills.count(1));
        mills.sack(1, 60, 10);
        mills.sack(1, 61, 10);
        mills.sack(1, 5, 9);
        check.due("head 40: 160 turns for 5, 60 and 61", 3, mills.pass(1));
        mills.sack(2, 1, 20);
        mills.sack(2, 210, 21);
        check.due("head 50: 200 turns for 1 and 210", 1, mills.pass(1));
        check.due("the rest", 11, mills.sackOf(6, 2));
        check.due("its hardness", 210, mills.sackOf(6, 1));
        check.due("sacks ground", 6, mills.count(8));
    }

    private static void leastHeadAndWater() {
        TideMills mills = new TideMills();
        mills.set(0, 1);
        mills.pond(0, 50, 0);
        mills.pass(2);
        mills.sack(0, 500, 9);
        check.due("its water", 18, mills.mill(0, 1));
        check.due("its head", 1032, mills.mill(0, 8));
        check.due("whyNot by too little water", 3, mills.whyNot(0));
        mills.set(2, 18);
        check.due("whyNot by enough water", 0, mills.whyNot(0));
        mills.set(1, 33);
        check.due("whyNot by a low head", 2, mills.whyNot(0));
        mills.set(2, 19);
        check.due("whyNot by both", 2, mills.whyNot(0));
        mills.set(1, 32);
        check.due("whyNot by too little water", 3, mills.whyNot(0));
        mills.back(0);
        check.due("whyNot without sacks", 1, mills.whyNot(0));
    }

    private static void late() {
        TideMills mills = new TideMills();
        mills.sack(0, 10, 3);
        mills.sack(0, 10, 2);
        mills.sack(0, 10, 4);
        check.due("ground in the hour 3", 3, mills.pass(3));
        check.due("late", 1, mills.count(9));
    }

    private static void headIsRoundedDown() {
        TideMills mills = new TideMills();
        mills.set(0, 1);
        mills.set(1, 0);
        mills.set(2, 5);
        mills.pond(0, 300, 0);
        mills.gear(0, 9, 8);
        mills.sack(0, 500, 9);
        mills.pass(1);
        check.due("10 of 300, tide 5", 998, mills.mill(0, 8));
        mills.pass(2);
        check.due("24 of 300, tide 3: 5 times 9 by 8", 495, mills.sackOf(0, 2));
        check.due("less the water of two hours", 14, mills.mill(0, 1));
        check.due("hours turned", 2, mills.mill(0, 9));
    }
}
