/** Promises 7 to 9: sack, carry, back. */
public final class SacksTest {
    private static final Check check = new Check("SacksTest");

    public static void main(String[] args) {
        sack();
        fullMill();
        sacksInAll();
        carry();
        carryKeepsTheRest();
        back();
        check.end();
    }

    private static void sack() {
        TideMills mills = new TideMills();
        check.due("sack(0, 1, 1)", 0, mills.sack(0, 1, 1));
        check.due("sack(4, 999, 9999)", 1, mills.sack(4, 999, 9999));
        check.due("sacks that came", 2, mills.count(6));
        check.due("saved states", 2, mills.count(14));
        check.dueThrow("sack(5, 0, 0)", mills, IndexOutOfBoundsException.class, () -> mills.sack(5, 0, 0));
        check.dueThrow("sack(-1, 1, 1)", mills, IndexOutOfBoundsException.class, () -> mills.sack(-1, 1, 1));
        check.dueThrow("sack(0, 0, 1)", mills, IllegalArgumentException.class, () -> mills.sack(0, 0, 1));
        check.dueThrow("sack(0, 1000, 1)", mills, IllegalArgumentException.class, () -> mills.sack(0, 1000, 1));
        check.dueThrow("sack(0, 1, 0)", mills, IllegalArgumentException.class, () -> mills.sack(0, 1, 0));
        check.dueThrow("sack(0, 1, 10000)", mills, IllegalArgumentException.class, () -> mills.sack(0, 1, 10000));
        mills.back(1);
        check.due("a number is not used again", 2, mills.sack(4, 5, 5));
        mills.undo();
        check.due("but for an undo", 2, mills.sack(3, 5, 5));
        check.due("its rest", 5, mills.sackOf(2, 2));
    }

    private static void fullMill() {
        TideMills mills = new TideMills();
        int[] dues = {7, 3, 7, 9, 1, 3};
        for (int due : dues) {
            mills.sack(2, 100, due);
        }
        int[] order = {4, 1, 5, 0, 2, 3};
        for (int place = 0; place < 6; place++) {
            check.due("sackAt(2, " + place + ")", order[place], mills.sackAt(2, place));
        }
        check.dueThrow("a seventh sack", mills, IllegalStateException.class, () -> mills.sack(2, 1, 1));
        check.dueThrow("a seventh wrong sack", mills, IllegalArgumentException.class, () -> mills.sack(2, 0, 1));
        mills.sack(3, 100, 1);
        check.dueThrow("carry to a full mill", mills, IllegalStateException.class, () -> mills.carry(6, 2));
        check.due("carry from a full mill", 1, mills.carry(5, 3));
        check.due("the next moved up", 0, mills.sackAt(2, 2));
        check.due("then there is room", 0, mills.carry(6, 2) - 1);
        check.due("a sack that came later goes behind at the same hour", 4, mills.sackAt(2, 0));
    }

    /** More calls than an object is promised for, as the 999 cannot come in fewer. */
    private static void sacksInAll() {
        TideMills mills = new TideMills();
        for (int number = 0; number < 999; number++) {
            check.due("sack", number, mills.sack(number % 5, 1, 1));
            mills.back(number);
        }
        check.dueThrow("the sack 999", mills, IllegalStateException.class, () -> mills.sack(0, 1, 1));
        for (char c : "s0,1,1".toCharArray()) {
            mills.append(c);
        }
        check.due("play of the sack 999", 0, mills.play());
        mills.undo();
        mills.undo();
        check.due("the last one again", 1, mills.sackOf(998, 2));
    }

    private static void carry() {
        TideMills mills = new TideMills();
        mills.sack(0, 10, 8);
        mills.sack(1, 20, 8);
        mills.sack(1, 30, 9);
        check.due("carry(0, 1) goes ahead of 1", 0, mills.carry(0, 1));
        check.due("its mill", 1, mills.sackOf(0, 0));
        check.due("carry(1, 0)", 0, mills.carry(1, 0));
        check.due("carry(2, 0) goes behind 1", 1, mills.carry(2, 0));
        check.due("sacks of mill 1", 1, mills.mill(1, 7));
        check.due("saved states", 6, mills.count(14));
        check.dueThrow("carry(0, 5)", mills, IndexOutOfBoundsException.class, () -> mills.carry(0, 5));
        check.dueThrow("carry(9, -1)", mills, IndexOutOfBoundsException.class, () -> mills.carry(9, -1));
        check.dueThrow("carry(9, 0)", mills, IllegalStateException.class, () -> mills.carry(9, 0));
        check.dueThrow("carry(-1, 0)", mills, IllegalStateException.class, () -> mills.carry(-1, 0));
        check.dueThrow("carry to its own mill", mills, IllegalStateException.class, () -> mills.carry(1, 0));
        mills.undo();
        check.due("its mill behind undo", 1, mills.sackOf(2, 0));
    }

    private static void carryKeepsTheRest() {
        TideMills mills = new TideMills();
        mills.sack(0, 300, 30);
        mills.pass(3);
        check.due("rest behind 120 turns", 180, mills.sackOf(0, 2));
        mills.carry(0, 3);
        check.due("rest at the other mill", 180, mills.sackOf(0, 2));
        check.due("its hardness", 300, mills.sackOf(0, 1));
        check.due("when it is due", 30, mills.sackOf(0, 3));
        check.due("sacks that came", 1, mills.count(6));
    }

    private static void back() {
        TideMills mills = new TideMills();
        mills.sack(0, 300, 30);
        mills.sack(0, 40, 31);
        mills.pass(3);
        check.due("back(0)", 180, mills.back(0));
        check.due("back(1)", 40, mills.back(1));
        check.due("taken back", 2, mills.count(10));
        check.due("ground", 0, mills.count(8));
        check.due("sacks at mills", 0, mills.count(7));
        check.dueThrow("back(0) again", mills, IllegalStateException.class, () -> mills.back(0));
        check.dueThrow("back(-1)", mills, IllegalStateException.class, () -> mills.back(-1));
        check.due("undo", 4, mills.undo());
        check.due("taken back behind undo", 1, mills.count(10));
        check.due("there again", 0, mills.sackOf(1, 4));
    }
}
