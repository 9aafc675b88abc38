/** Promises 17 to 22: mill, sackAt, sackOf, whyNot, tide, count. */
public final class LooksTest {
    private static final Check check = new Check("LooksTest");

    public static void main(String[] args) {
        TideMills mills = mills();
        mill(mills);
        sackAt(mills);
        sackOf(mills);
        whyNot(mills);
        tide();
        count(mills);
        waterAndSacksAddUp();
        check.end();
    }

    /** Behind 4 hours: mill 1 ground sack 0 and 70 of sack 1, late sack 0; then mill 3 turned. */
    private static TideMills mills() {
        TideMills mills = new TideMills();
        mills.sack(1, 50, 2);
        mills.sack(1, 100, 8);
        mills.sack(3, 999, 7);
        mills.gate(0, 2, 5);
        mills.gear(1, 40, 10);
        mills.pass(4);
        mills.sack(2, 9, 9);
        mills.back(3);
        return mills;
    }

    private static void mill(TideMills mills) {
        int[] first = {200, 60, 20, 2, 5, 40, 10, 0, 1010, 0, 0};
        int[] second = {200, 100, 20, 0, 11, 40, 10, 1, 1030, 1, 1};
        for (int what = 0; what <= 10; what++) {
            check.due("mill(0, " + what + ")", first[what], mills.mill(0, what));
            check.due("mill(1, " + what + ")", second[what], mills.mill(1, what));
        }
        check.dueThrow("mill(5, -1)", mills, IndexOutOfBoundsException.class, () -> mills.mill(5, -1));
        check.dueThrow("mill(-1, 0)", mills, IndexOutOfBoundsException.class, () -> mills.mill(-1, 0));
        check.dueThrow("mill(0, -1)", mills, IllegalArgumentException.class, () -> mills.mill(0, -1));
        check.dueThrow("mill(0, 11)", mills, IllegalArgumentException.class, () -> mills.mill(0, 11));
    }

    private static void sackAt(TideMills mills) {
        check.due("sackAt(1, 0)", 1, mills.sackAt(1, 0));
        check.due("sackAt(1, 1)", -1, mills.sackAt(1, 1));
        check.due("sackAt(1, 6)", -1, mills.sackAt(1, 6));
        check.due("sackAt far behind", -1, mills.sackAt(1, Integer.MAX_VALUE));
        check.due("sackAt(0, 0)", -1, mills.sackAt(0, 0));
        check.dueThrow("sackAt(5, -1)", mills, IndexOutOfBoundsException.class, () -> mills.sackAt(5, -1));
        check.dueThrow("sackAt(-1, 0)", mills, IndexOutOfBoundsException.class, () -> mills.sackAt(-1, 0));
        check.dueThrow("sackAt(0, -1)", mills, IllegalArgumentException.class, () -> mills.sackAt(0, -1));
    }

    private static void sackOf(TideMills mills) {
        int[] due = {1, 100, 30, 8, 0};
        for (int what = 0; what <= 4; what++) {
            check.due("sackOf(1, " + what + ")", due[what], mills.sackOf(1, what));
            check.due("sackOf a ground one", -1, mills.sackOf(0, what));
            check.due("sackOf one that is taken back", -1, mills.sackOf(3, what));
            check.due("sackOf none", -1, mills.sackOf(-1, what));
        }
        check.dueThrow("sackOf(1, -1)", mills, IllegalArgumentException.class, () -> mills.sackOf(1, -1));
        check.dueThrow("sackOf(1, 5)", mills, IllegalArgumentException.class, () -> mills.sackOf(1, 5));
        check.dueThrow("sackOf(99, 5)", mills, IllegalArgumentException.class, () -> mills.sackOf(99, 5));
    }

    private static void whyNot(TideMills mills) {
        check.due("whyNot(0)", 1, mills.whyNot(0));
        check.due("whyNot(1)", 0, mills.whyNot(1));
        mills.set(1, 31);
        check.due("whyNot(1) below the least head", 2, mills.whyNot(1));
        mills.set(1, 30);
        check.due("whyNot(1) at the least head", 0, mills.whyNot(1));
        mills.undo();
        mills.undo();
        check.dueThrow("whyNot(5)", mills, IndexOutOfBoundsException.class, () -> mills.whyNot(5));
        check.dueThrow("whyNot(-1)", mills, IndexOutOfBoundsException.class, () -> mills.whyNot(-1));
    }

    private static void tide() {
        TideMills mills = new TideMills();
        int[] due = {60, 50, 40, 30, 20, 10, 0, 10, 20, 30, 40, 50, 60, 50};
        for (int hour = 0; hour < due.length; hour++) {
            check.due("tide(" + hour + ")", due[hour], mills.tide(hour));
        }
        check.due("tide of the last hour", 10, mills.tide(Integer.MAX_VALUE));
        mills.set(0, 15);
        check.due("tide(12) by 15", 90, mills.tide(12));
        check.dueThrow("tide(-1)", mills, IllegalArgumentException.class, () -> mills.tide(-1));
    }

    private static void count(TideMills mills) {
        int[] due = {4, 3, 2, 540, 40, 500, 4, 2, 1, 1, 1, 10, 20, 20, 4};
        for (int what = 0; what <= 13; what++) {
            check.due("count(" + what + ")", due[what], mills.count(what));
        }
        check.dueThrow("count(-1)", mills, IllegalArgumentException.class, () -> mills.count(-1));
        check.dueThrow("count(15)", mills, IllegalArgumentException.class, () -> mills.count(15));
        mills.pass(48);
        check.due("the mill that turned in the last hour", -1, mills.count(1));
    }

    private static void waterAndSacksAddUp() {
        TideMills mills = new TideMills();
        for (int round = 0; round < 60; round++) {
            mills.sack(round % 5, 40 + round * 7, 4 + round);
            mills.pass(1 + round % 3);
            if (mills.sackOf(mills.count(6) - 1, 0) != TideMills.NONE && round % 3 == 1) {
                mills.back(mills.count(6) - 1);
            }
            check.due("water", mills.count(3), mills.count(4) + mills.count(5));
            check.due("sacks", mills.count(6), mills.count(7) + mills.count(8) + mills.count(10));
            int turned = 0;
            for (int mill = 0; mill < 5; mill++) {
                turned += mills.mill(mill, 9);
            }
            check.due("hours", mills.count(0), turned + mills.count(2));
        }
    }
}
