/** The boundary sentences of "Sacks", and of promises 7 to 9. */
public final class SacksEdgeTest {
    private static final Edge edge = new Edge("SacksEdgeTest");

    /** Mill 2 has the sacks 0 to 5, all due in the hour 30. */
    private static final Edge.Setup FULL_MILL = mills -> {
        for (int sack = 0; sack < 6; sack++) {
            mills.sack(2, 100, 30);
        }
    };

    /** Of the sacks 0 to 3 at mill 0 the first is ground, the second has a rest of 120, the fourth is taken back. */
    private static final Edge.Setup SOME_GONE = mills -> {
        mills.sack(0, 70, 8);
        mills.sack(0, 170, 9);
        mills.sack(0, 90, 10);
        mills.sack(0, 80, 11);
        mills.pass(3);
        mills.gear(0, 10, 10);
        mills.back(3);
    };

    private SacksEdgeTest() {
    }

    public static void main(String[] args) {
        numbersGoOn();
        sackToWhichMill();
        hardness();
        due();
        restAtFirst();
        sixSacksAtMost();
        roomAgain();
        sackExceptionsInTheirOrder();
        atMost999Come();
        orderByDue();
        orderByNumber();
        carryToWhichMill();
        carryWhichSack();
        carryNotToItsOwnMill();
        carryNotToAFullMill();
        carryPlaces();
        carryKeepsWhatTheSackIs();
        carryExceptionsInTheirOrder();
        backWhichSack();
        backReturnsTheRest();
        backTheFirstTheLastTheOnlyOne();
        edge.end();
    }

    private static void numbersGoOn() {
        edge.answers("from 0 on", 0, Edge.NEW, m -> m.sack(4, 5, 5));
        edge.answers("whatever the mill", 1, m -> m.sack(4, 5, 5), m -> m.sack(0, 5, 5));
        edge.answers("a number that is ground comes no more", 1, m -> {
            m.sack(0, 1, 5);
            m.pass(3);
        }, m -> m.sack(0, 1, 5));
        edge.answers("a number that is taken back comes no more", 1, m -> {
            m.sack(0, 1, 5);
            m.back(0);
        }, m -> m.sack(0, 1, 5));
        edge.answers("one that is undone comes again", 0, m -> {
            m.sack(0, 1, 5);
            m.undo();
        }, m -> m.sack(0, 1, 5));
    }

    private static void sackToWhichMill() {
        edge.range("sack, mill: 0 to 4", Edge.INDEX, 0, 4, (m, mill) -> m.sack(mill, 5, 5));
        edge.answers("at the last mill", 4, m -> m.sack(4, 5, 5), m -> m.sackOf(0, 0));
    }

    private static void hardness() {
        edge.range("sack, hardness: 1 to 999", Edge.ARGUMENT, 1, 999, (m, hardness) -> m.sack(0, hardness, 5));
        edge.answers("a hardness of 1", 1, m -> m.sack(0, 1, 5), m -> m.sackOf(0, 1));
        edge.answers("a hardness of 999", 999, m -> m.sack(0, 999, 5), m -> m.sackOf(0, 1));
    }

    private static void due() {
        edge.range("sack, due: 1 to 9999", Edge.ARGUMENT, 1, 9999, (m, due) -> m.sack(0, 5, due));
        edge.answers("due in the hour 1", 1, m -> m.sack(0, 5, 1), m -> m.sackOf(0, 3));
        edge.answers("due in the hour 9999", 9999, m -> m.sack(0, 5, 9999), m -> m.sackOf(0, 3));
        edge.answers("due in an hour that is gone", 1, m -> {
            m.pass(48);
            m.sack(0, 5, 1);
        }, m -> m.sackOf(0, 3));
    }

    private static void restAtFirst() {
        edge.answers("the rest is at first its hardness, 1", 1, m -> m.sack(0, 1, 5), m -> m.sackOf(0, 2));
        edge.answers("the rest is at first its hardness, 999", 999, m -> m.sack(0, 999, 5), m -> m.sackOf(0, 2));
    }

    private static void sixSacksAtMost() {
        Edge.Setup five = m -> {
            FULL_MILL.make(m);
            m.back(5);
        };
        edge.answers("a sixth sack", 6, five, m -> m.sack(2, 100, 30));
        edge.refuses("a seventh sack", Edge.STATE, FULL_MILL, m -> m.sack(2, 100, 30));
        edge.refuses("a seventh sack that would be the first", Edge.STATE, FULL_MILL, m -> m.sack(2, 100, 1));
        edge.answers("the mill before has room", 6, FULL_MILL, m -> m.sack(1, 100, 30));
        edge.answers("the mill behind has room", 6, FULL_MILL, m -> m.sack(3, 100, 30));
        TideMills mills = new TideMills();
        for (int sack = 0; sack < 30; sack++) {
            edge.due("all mills take six", sack, mills.sack(sack / 6, 100, 30));
        }
        edge.due("all mills are full", 30, mills.count(7));
    }

    private static void roomAgain() {
        edge.answers("behind a sack that is taken back", 6, m -> {
            FULL_MILL.make(m);
            m.back(3);
        }, m -> m.sack(2, 100, 30));
        edge.answers("behind one that is carried away", 6, m -> {
            FULL_MILL.make(m);
            m.carry(3, 0);
        }, m -> m.sack(2, 100, 30));
        edge.answers("behind one that is ground", 6, m -> {
            FULL_MILL.make(m);
            m.pass(3);
        }, m -> m.sack(2, 100, 30));
        edge.refuses("none while the first is not yet ground", Edge.STATE, m -> {
            FULL_MILL.make(m);
            m.pass(2);
        }, m -> m.sack(2, 100, 30));
    }

    private static void sackExceptionsInTheirOrder() {
        edge.refuses("no such mill is ahead of hardness", Edge.INDEX, Edge.NEW, m -> m.sack(5, 0, 5));
        edge.refuses("no such mill is ahead of due", Edge.INDEX, Edge.NEW, m -> m.sack(-1, 5, 10000));
        edge.refuses("hardness is ahead of a full mill", Edge.ARGUMENT, FULL_MILL, m -> m.sack(2, 1000, 5));
        edge.refuses("due is ahead of a full mill", Edge.ARGUMENT, FULL_MILL, m -> m.sack(2, 5, 0));
    }

    /** In more calls than are promised, as the 999 cannot come in 512. */
    private static void atMost999Come() {
        Edge.Setup allButOne = m -> {
            for (int sack = 0; sack < 998; sack++) {
                m.sack(sack % 5, 1, 1);
                m.back(sack);
            }
        };
        Edge.Setup all = m -> {
            allButOne.make(m);
            m.sack(4, 1, 1);
        };
        edge.answers("the last sack that comes", 998, allButOne, m -> m.sack(4, 1, 1));
        edge.refuses("one more", Edge.STATE, all, m -> m.sack(0, 1, 1));
        edge.refuses("hardness is ahead of it", Edge.ARGUMENT, all, m -> m.sack(0, 0, 1));
        edge.answers("one more in a text", 1, all, m -> {
            Edge.type(m, "+1;s0,1,1;+1");
            return m.play();
        });
        edge.answers("the last sack in a text", 1, allButOne, m -> {
            Edge.type(m, "s0,1,1;s0,1,1");
            return m.play();
        });
    }

    private static void dueOrder(String sentence, String want, TideMills mills, int mill) {
        StringBuilder order = new StringBuilder();
        for (int place = 0; place < mills.mill(mill, 7); place++) {
            order.append(mills.sackAt(mill, place)).append(' ');
        }
        edge.dueText(sentence, want, order.toString().trim());
    }

    private static TideMills withDues(int... dues) {
        TideMills mills = new TideMills();
        for (int due : dues) {
            mills.sack(0, 100, due);
        }
        return mills;
    }

    private static void orderByDue() {
        dueOrder("one hour earlier goes ahead", "1 0", withDues(30, 29), 0);
        dueOrder("one hour later goes behind", "0 1", withDues(29, 30), 0);
        dueOrder("between two", "0 2 1", withDues(29, 31, 30), 0);
        dueOrder("each ahead of all", "5 4 3 2 1 0", withDues(9999, 9998, 30, 10, 2, 1), 0);
        dueOrder("each behind all", "0 1 2 3 4 5", withDues(1, 2, 10, 30, 9998, 9999), 0);
    }

    private static void orderByNumber() {
        dueOrder("due in the same hour, by their numbers", "0 1 2 3 4 5", withDues(7, 7, 7, 7, 7, 7), 0);
        dueOrder("behind the same, ahead of a later one", "0 2 1", withDues(7, 8, 7), 0);
        dueOrder("two hours in turn", "1 3 5 0 2 4", withDues(8, 7, 8, 7, 8, 7), 0);
    }

    private static void carryToWhichMill() {
        Edge.Setup atTwo = m -> m.sack(2, 5, 5);
        edge.answers("to the first mill", 0, atTwo, m -> m.carry(0, 0) + m.sackOf(0, 0));
        edge.answers("to the last mill", 4, atTwo, m -> m.carry(0, 4) + m.sackOf(0, 0));
        int[] wrong = {-1, 5, Integer.MIN_VALUE, Integer.MAX_VALUE};
        for (int mill : wrong) {
            edge.refuses("to no such mill: " + mill, Edge.INDEX, atTwo, m -> m.carry(0, mill));
        }
    }

    private static void carryWhichSack() {
        edge.answers("the first that came", 0, m -> {
            m.sack(0, 5, 5);
            m.sack(0, 5, 5);
        }, m -> m.carry(0, 1));
        edge.answers("the last that came", 0, m -> {
            m.sack(0, 5, 5);
            m.sack(0, 5, 5);
        }, m -> m.carry(1, 1));
        edge.refuses("none came", Edge.STATE, Edge.NEW, m -> m.carry(0, 1));
        int[] wrong = {-1, 4, Integer.MIN_VALUE, Integer.MAX_VALUE};
        for (int sack : wrong) {
            edge.refuses("no mill has such a sack: " + sack, Edge.STATE, SOME_GONE, m -> m.carry(sack, 1));
        }
        edge.refuses("one that is ground", Edge.STATE, SOME_GONE, m -> m.carry(0, 1));
        edge.refuses("one that is taken back", Edge.STATE, SOME_GONE, m -> m.carry(3, 1));
    }

    private static void carryNotToItsOwnMill() {
        edge.refuses("it is at this mill", Edge.STATE, m -> m.sack(2, 5, 5), m -> m.carry(0, 2));
        edge.refuses("it is at this mill, with others", Edge.STATE, SOME_GONE, m -> m.carry(1, 0));
        edge.refuses("it is at this mill, which is full", Edge.STATE, FULL_MILL, m -> m.carry(3, 2));
        edge.refuses("it is there by a carry", Edge.STATE, m -> {
            m.sack(2, 5, 5);
            m.carry(0, 3);
        }, m -> m.carry(0, 3));
    }

    private static void carryNotToAFullMill() {
        Edge.Setup oneMore = m -> {
            FULL_MILL.make(m);
            m.sack(3, 50, 30);
        };
        edge.refuses("that has 6", Edge.STATE, oneMore, m -> m.carry(6, 2));
        edge.answers("that has 5", 5, m -> {
            oneMore.make(m);
            m.back(0);
        }, m -> m.carry(6, 2));
        edge.answers("from a mill that has 6", 0, FULL_MILL, m -> m.carry(5, 3));
        edge.refuses("between two full mills", Edge.STATE, m -> {
            FULL_MILL.make(m);
            for (int sack = 0; sack < 6; sack++) {
                m.sack(1, 100, 30);
            }
        }, m -> m.carry(0, 1));
    }

    /** At mill 1 the sacks 0, 2, 4 are due in the hours 10, 20, 30; sack 3 is at mill 0. */
    private static int placeWithDue(int due) {
        TideMills mills = new TideMills();
        mills.sack(1, 5, 10);
        mills.sack(2, 5, 5);
        mills.sack(1, 5, 20);
        mills.sack(0, 5, due);
        mills.sack(1, 5, 30);
        return mills.carry(3, 1);
    }

    private static void carryPlaces() {
        edge.due("due before the first", 0, placeWithDue(9));
        edge.due("due with the first, which came before it", 1, placeWithDue(10));
        edge.due("due behind the first", 1, placeWithDue(11));
        edge.due("due with the second, which came before it", 2, placeWithDue(20));
        edge.due("due before the last", 2, placeWithDue(29));
        edge.due("due with the last, which came behind it", 2, placeWithDue(30));
        edge.due("due behind the last", 3, placeWithDue(31));
        edge.answers("in an empty mill", 0, FULL_MILL, m -> m.carry(5, 4));
        TideMills mills = Edge.made(FULL_MILL);
        mills.carry(3, 4);
        mills.carry(5, 4);
        dueOrder("those behind it move up", "0 1 2 4", mills, 2);
        dueOrder("and are in order there", "3 5", mills, 4);
        mills.carry(3, 2);
        dueOrder("back in its place by its number", "0 1 2 3 4", mills, 2);
    }

    private static void carryKeepsWhatTheSackIs() {
        TideMills mills = Edge.made(SOME_GONE);
        edge.due("its place", 0, mills.carry(1, 4));
        int[] sack = {4, 170, 120, 9, 0};
        for (int what = 0; what <= 4; what++) {
            edge.due("of a sack that is ground in part: " + what, sack[what], mills.sackOf(1, what));
        }
        edge.due("it has not come again", 4, mills.count(6));
        edge.due("nor is it taken back", 1, mills.count(10));
        edge.due("nor gone", 2, mills.count(7));
    }

    private static void carryExceptionsInTheirOrder() {
        edge.refuses("no such mill is ahead of no such sack", Edge.INDEX, Edge.NEW, m -> m.carry(0, 5));
        edge.refuses("no such mill is ahead of no such sack", Edge.INDEX, FULL_MILL, m -> m.carry(-1, -1));
    }

    private static void backWhichSack() {
        edge.answers("the first that came", 100, FULL_MILL, m -> m.back(0));
        edge.answers("the last that came", 100, FULL_MILL, m -> m.back(5));
        edge.refuses("none came", Edge.STATE, Edge.NEW, m -> m.back(0));
        int[] wrong = {-1, 4, Integer.MIN_VALUE, Integer.MAX_VALUE};
        for (int sack : wrong) {
            edge.refuses("no mill has such a sack: " + sack, Edge.STATE, SOME_GONE, m -> m.back(sack));
        }
        edge.refuses("one that is ground", Edge.STATE, SOME_GONE, m -> m.back(0));
        edge.refuses("one that is taken back", Edge.STATE, SOME_GONE, m -> m.back(3));
    }

    private static void backReturnsTheRest() {
        edge.answers("of one that is not ground at all", 90, SOME_GONE, m -> m.back(2));
        edge.answers("of one that is ground in part", 120, SOME_GONE, m -> m.back(1));
        edge.answers("the least rest", 1, m -> {
            m.sack(0, 121, 9);
            m.pass(3);
        }, m -> m.back(0));
        edge.answers("the greatest rest", 999, m -> m.sack(0, 999, 9), m -> m.back(0));
    }

    private static void backTheFirstTheLastTheOnlyOne() {
        TideMills mills = Edge.made(FULL_MILL);
        mills.back(0);
        dueOrder("those behind the first move up", "1 2 3 4 5", mills, 2);
        mills.back(5);
        dueOrder("those ahead of the last stay", "1 2 3 4", mills, 2);
        mills.back(2);
        dueOrder("those round one stay", "1 3 4", mills, 2);
        mills.back(1);
        mills.back(3);
        mills.back(4);
        dueOrder("none is left", "", mills, 2);
        edge.due("all were taken back", 6, mills.count(10));
        edge.due("none is ground", 0, mills.count(8));
        edge.due("none is late", 0, mills.count(9));
        edge.due("all came", 6, mills.count(6));
        edge.due("no mill has one", 0, mills.count(7));
    }
}
