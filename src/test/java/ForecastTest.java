/** Promises 23 to 29: next, chosen, ifPassed, groundIn, bestStone, inTime, digest. */
public final class ForecastTest {
    private static final Check check = new Check("ForecastTest");

    public static void main(String[] args) {
        nextAndChosen();
        ifPassed();
        groundIn();
        bestStone();
        inTime();
        digest();
        check.end();
    }

    private static void nextAndChosen() {
        TideMills mills = new TideMills();
        check.due("next(0) of a new object", -1, mills.next(0));
        check.due("chosen of a new object", -1, mills.chosen());
        mills.pond(3, 150, 20);
        mills.pass(4);
        int[] dues = {30, 30, 29, 30, 9999};
        for (int mill = 0; mill < 5; mill++) {
            mills.sack(mill, 500, dues[mill]);
        }
        int[] order = {2, 3, 0, 1, 4};
        for (int rank = 0; rank < 5; rank++) {
            check.due("next(" + rank + ")", order[rank], mills.next(rank));
        }
        check.due("next(5)", -1, mills.next(5));
        check.due("next far behind", -1, mills.next(Integer.MAX_VALUE));
        check.due("chosen", 2, mills.chosen());
        mills.back(2);
        check.due("next(0) by the head", 3, mills.next(0));
        check.due("chosen by the head", 3, mills.chosen());
        mills.back(3);
        check.due("next(0) by the number", 0, mills.next(0));
        check.due("chosen by the number", 0, mills.chosen());
        check.due("next(3)", -1, mills.next(3));
        check.dueThrow("next(-1)", mills, IllegalArgumentException.class, () -> mills.next(-1));
    }

    /** In the hour 3 mill 0 grinds 120, in the hour 4 mill 1 grinds 200: its head is 50 there. */
    private static TideMills twoMills() {
        TideMills mills = new TideMills();
        mills.sack(0, 50, 2);
        mills.sack(0, 70, 9);
        mills.sack(1, 210, 10);
        return mills;
    }

    private static void ifPassed() {
        TideMills mills = twoMills();
        int[][] due = {{0, 0, 1, 0}, {0, 0, 2, 0}, {2, 1, 2, 20}, {2, 1, 2, 40}, {3, 1, 2, 60}, {3, 1, 3, 60}};
        long before = mills.digest();
        for (int hours = 1; hours <= due.length; hours++) {
            for (int what = 0; what < 4; what++) {
                check.due("ifPassed(" + hours + ", " + what + ")", due[hours - 1][what], mills.ifPassed(hours, what));
            }
        }
        check.due("ifPassed(48, 2)", 45, mills.ifPassed(48, 2));
        check.due("the digest stays", 0, before - mills.digest());
        check.due("pass(3)", 2, mills.pass(3));
        check.due("then more", 1, mills.ifPassed(2, 0));
        check.due("then no more late", 0, mills.ifPassed(2, 1));
        check.due("then water", 40, mills.ifPassed(2, 3));
        check.due("then idle hours", 1, mills.ifPassed(3, 2));
        check.dueThrow("ifPassed(0, 0)", mills, IllegalArgumentException.class, () -> mills.ifPassed(0, 0));
        check.dueThrow("ifPassed(49, 0)", mills, IllegalArgumentException.class, () -> mills.ifPassed(49, 0));
        check.dueThrow("ifPassed(1, -1)", mills, IllegalArgumentException.class, () -> mills.ifPassed(1, -1));
        check.dueThrow("ifPassed(1, 4)", mills, IllegalArgumentException.class, () -> mills.ifPassed(1, 4));
    }

    private static void groundIn() {
        TideMills mills = twoMills();
        check.due("groundIn(0)", 3, mills.groundIn(0));
        check.due("groundIn(1)", 3, mills.groundIn(1));
        check.due("groundIn(2)", 5, mills.groundIn(2));
        check.due("groundIn(3)", -1, mills.groundIn(3));
        check.due("groundIn(-1)", -1, mills.groundIn(-1));
        mills.pass(4);
        check.due("groundIn(2) in the hour 4", 1, mills.groundIn(2));
        check.due("groundIn a ground one", -1, mills.groundIn(0));
        TideMills dry = new TideMills();
        dry.pond(0, 200, 60);
        dry.sack(0, 1, 1);
        check.due("groundIn without water", -1, dry.groundIn(0));
        lastHourThatCounts();
    }

    /** The mill turns in the hours 6, 18, 30 and so on alone, and 17 of these grind the sack. */
    private static void lastHourThatCounts() {
        for (int before = 0; before <= 12; before++) {
            TideMills mills = new TideMills();
            mills.set(1, 100);
            mills.set(2, 5);
            mills.gear(0, 8, 60);
            mills.pond(0, 50, 0);
            if (before > 0) {
                mills.pass(before);
            }
            mills.sack(0, 13 * 17, 9999);
            int hours = (before < 6 ? 198 : 210) - before;
            check.due("groundIn in the hour " + before, hours > 200 ? -1 : hours, mills.groundIn(0));
        }
    }

    private static void bestStone() {
        TideMills mills = new TideMills();
        check.due("bestStone without sacks", 60, mills.bestStone(0));
        mills.sack(0, 1, 1);
        check.due("bestStone by one that any grinds", 60, mills.bestStone(0));
        mills.sack(1, 999, 2);
        mills.sack(1, 999, 3);
        mills.sack(1, 999, 4);
        mills.sack(1, 999, 5);
        check.due("bestStone of much", 8, mills.bestStone(1));
        check.due("bestStone of the other", 60, mills.bestStone(0));
        check.due("the stone stays", 10, mills.mill(1, 6));
        check.due("saved states", 5, mills.count(14));
        check.dueThrow("bestStone(5)", mills, IndexOutOfBoundsException.class, () -> mills.bestStone(5));
        check.dueThrow("bestStone(-1)", mills, IndexOutOfBoundsException.class, () -> mills.bestStone(-1));
        check.due("2 times 2000 by the stone for 100", 40, twoTurnsADay(1, 100).bestStone(0));
        check.due("2 times 2000 by the stone for 101", 36, twoTurnsADay(1, 101).bestStone(0));
        check.due("in the hours 6 and 18, not in 30", 40, twoTurnsADay(5, 100).bestStone(0));
        TideMills fromSix = twoTurnsADay(5, 1);
        fromSix.pass(1);
        fromSix.sack(0, 100, 40);
        check.due("in the hours 18 and 30", 40, fromSix.bestStone(0));
    }

    /** The pond has 100 in the hours 2 and 14, and a head of 50 in the hours 6 and 18. */
    private static TideMills twoTurnsADay(int hour, int hardness) {
        TideMills mills = new TideMills();
        mills.gate(0, 1, 2);
        mills.set(1, 50);
        mills.set(2, 100);
        mills.pass(hour);
        mills.sack(0, hardness, 40);
        return mills;
    }

    private static void inTime() {
        TideMills mills = new TideMills();
        check.due("inTime of none", 1.0, mills.inTime());
        mills.sack(0, 10, 2);
        mills.sack(0, 10, 3);
        mills.sack(0, 10, 9);
        mills.pass(2);
        check.due("inTime of none yet", 1.0, mills.inTime());
        mills.pass(1);
        check.due("inTime of two of three", 2.0 / 3.0, mills.inTime());
        TideMills late = new TideMills();
        late.sack(0, 10, 1);
        late.pass(3);
        check.due("inTime of a late one", 0.0, late.inTime());
    }

    private static void digest() {
        TideMills mills = new TideMills();
        dueDigest(mills, "");
        mills.append('s');
        mills.append('~');
        dueDigest(mills, "s~");
        mills.sack(0, 10, 2);
        mills.sack(0, 900, 3);
        mills.sack(3, 40, 3);
        mills.sack(3, 600, 9);
        for (int hour = 0; hour < 8; hour++) {
            mills.pass(1);
            dueDigest(mills, "s~");
        }
        mills.clearBuffer();
        dueDigest(mills, "");
        for (int more = 0; more < 12; more++) {
            mills.pass(12);
            mills.sack(more % 5, 1, more % 3 == 0 ? 1 : 9999);
            dueDigest(mills, "");
        }
    }

    private static void dueDigest(TideMills mills, String text) {
        check.due("digest in the hour " + mills.count(0), 0, DueDigest.of(mills, text) - mills.digest());
    }
}
