/** The boundary sentences of promises 17 to 22. */
public final class LooksEdgeTest {
    private static final Edge edge = new Edge("LooksEdgeTest");

    /** Mill 4 has the sacks 1, 2, 3, 4, 5, 6, all due in the hour 40, and mill 0 had two more. */
    private static final Edge.Setup FULL_MILL = mills -> {
        mills.sack(0, 60, 2);
        for (int sack = 1; sack <= 6; sack++) {
            mills.sack(4, 100 + sack, 40);
        }
        mills.sack(0, 999, 41);
        mills.pass(3);
        mills.back(7);
        mills.keep();
        mills.append('g');
    };

    private LooksEdgeTest() {
    }

    public static void main(String[] args) {
        nothingIsChanged();
        ofWhichMill();
        whatOfAMill();
        numbersOfAMillAtTheirEnds();
        headOfNow();
        millExceptionsInTheirOrder();
        placesOfAFullMill();
        placesOfAnEmptyMill();
        placeBelowZero();
        sackAtExceptionsInTheirOrder();
        sackThatNoMillHas();
        whatOfASack();
        placeOfASack();
        whyNotOfNow();
        tideOfWhichHour();
        countWhat();
        countOfTheMillThatTurned();
        countsOfSacks();
        waterAddsUp();
        edge.end();
    }

    private static void nothingIsChanged() {
        edge.changesNothing("mill", FULL_MILL, m -> m.mill(4, 8));
        edge.changesNothing("sackAt", FULL_MILL, m -> m.sackAt(4, 5) + m.sackAt(4, 6));
        edge.changesNothing("sackOf", FULL_MILL, m -> m.sackOf(6, 4) + m.sackOf(7, 4));
        edge.changesNothing("whyNot", FULL_MILL, m -> m.whyNot(0) + m.whyNot(4));
        edge.changesNothing("tide", FULL_MILL, m -> m.tide(0) + m.tide(Integer.MAX_VALUE));
        edge.changesNothing("count", FULL_MILL, m -> m.count(0) + m.count(14));
    }

    private static void ofWhichMill() {
        edge.range("mill, mill: 0 to 4", Edge.INDEX, 0, 4, (m, mill) -> m.mill(mill, 0));
        edge.range("sackAt, mill: 0 to 4", Edge.INDEX, 0, 4, (m, mill) -> m.sackAt(mill, 0));
        edge.range("whyNot, mill: 0 to 4", Edge.INDEX, 0, 4, TideMills::whyNot);
    }

    private static void whatOfAMill() {
        edge.range("mill, what: 0 to 10", Edge.ARGUMENT, 0, 10, (m, what) -> m.mill(0, what));
        int[] numbers = {200, 120, 20, 0, 11, 40, 10, 6, 1030, 0, 0};
        int[] others = {200, 100, 20, 0, 11, 40, 10, 0, 1020, 1, 1};
        for (int what = 0; what <= 10; what++) {
            int number = what;
            edge.answers("of the full mill: " + what, numbers[what], FULL_MILL, m -> m.mill(4, number));
            edge.answers("of an empty mill: " + what, others[what], FULL_MILL, m -> m.mill(0, number));
        }
    }

    private static void numbersOfAMillAtTheirEnds() {
        TideMills mills = new TideMills();
        mills.pond(3, 50, 60);
        mills.gate(3, 11, 11);
        mills.gear(3, 8, 60);
        int[] numbers = {50, 0, 60, 11, 11, 8, 60, 0, 940, 0, 0};
        mills.pond(1, 500, 0);
        mills.gate(1, 0, 0);
        mills.gear(1, 60, 8);
        int[] others = {500, 0, 0, 0, 0, 60, 8, 0, 940, 0, 0};
        for (int what = 0; what <= 10; what++) {
            edge.due("of mill 3: " + what, numbers[what], mills.mill(3, what));
            edge.due("of mill 1: " + what, others[what], mills.mill(1, what));
        }
    }

    private static void headOfNow() {
        edge.answers("a head below 0, and 1000 more", 940, Edge.NEW, m -> m.mill(0, 8));
        edge.answers("a head of 0, and 1000 more", 1000, m -> {
            m.pond(0, 120, 20);
            m.pass(1);
        }, m -> m.mill(0, 8));
        edge.answers("with the tide of the hour, not of the next", 980, m -> m.pass(1), m -> m.mill(0, 8));
        edge.answers("with the setting of now", 1025, m -> {
            m.pass(1);
            m.set(0, 1);
        }, m -> m.mill(0, 8));
        edge.answers("with the water behind a turning", 1020, FULL_MILL, m -> m.mill(0, 8));
    }

    private static void millExceptionsInTheirOrder() {
        edge.refuses("no such mill is ahead of what", Edge.INDEX, Edge.NEW, m -> m.mill(5, 11));
        edge.refuses("no such mill is ahead of what", Edge.INDEX, Edge.NEW, m -> m.mill(-1, -1));
    }

    private static void placesOfAFullMill() {
        for (int place = 0; place < 6; place++) {
            int its = place;
            edge.answers("the place " + place, place + 1, FULL_MILL, m -> m.sackAt(4, its));
        }
        edge.answers("behind the last", TideMills.NONE, FULL_MILL, m -> m.sackAt(4, 6));
        edge.answers("far behind the last", TideMills.NONE, FULL_MILL, m -> m.sackAt(4, Integer.MAX_VALUE));
        Edge.Setup five = m -> {
            FULL_MILL.make(m);
            m.back(6);
        };
        edge.answers("the last of five", 5, five, m -> m.sackAt(4, 4));
        edge.answers("behind the last of five", TideMills.NONE, five, m -> m.sackAt(4, 5));
    }

    private static void placesOfAnEmptyMill() {
        edge.answers("the first place of an empty mill", TideMills.NONE, Edge.NEW, m -> m.sackAt(0, 0));
        edge.answers("of one whose sacks are gone", TideMills.NONE, FULL_MILL, m -> m.sackAt(0, 0));
        edge.answers("the only sack", 0, m -> m.sack(0, 1, 1), m -> m.sackAt(0, 0));
        edge.answers("behind the only sack", TideMills.NONE, m -> m.sack(0, 1, 1), m -> m.sackAt(0, 1));
    }

    private static void placeBelowZero() {
        edge.refuses("place -1", Edge.ARGUMENT, FULL_MILL, m -> m.sackAt(4, -1));
        edge.refuses("the least place", Edge.ARGUMENT, FULL_MILL, m -> m.sackAt(4, Integer.MIN_VALUE));
        edge.refuses("place -1 of an empty mill", Edge.ARGUMENT, Edge.NEW, m -> m.sackAt(4, -1));
    }

    private static void sackAtExceptionsInTheirOrder() {
        edge.refuses("no such mill is ahead of place", Edge.INDEX, Edge.NEW, m -> m.sackAt(5, -1));
        edge.refuses("no such mill is ahead of place", Edge.INDEX, Edge.NEW, m -> m.sackAt(-1, -1));
    }

    private static void sackThatNoMillHas() {
        int[] sacks = {-1, Integer.MIN_VALUE, 8, Integer.MAX_VALUE, 0, 7};
        for (int sack : sacks) {
            for (int what = 0; what <= 4; what++) {
                int number = what;
                edge.answers("no mill has the sack " + sack, TideMills.NONE, FULL_MILL, m -> m.sackOf(sack, number));
            }
        }
        edge.answers("none came", TideMills.NONE, Edge.NEW, m -> m.sackOf(0, 0));
        edge.answers("none came, not even -1", TideMills.NONE, Edge.NEW, m -> m.sackOf(TideMills.NONE, 0));
    }

    private static void whatOfASack() {
        edge.range("sackOf, what: 0 to 4", Edge.ARGUMENT, 0, 4, (m, what) -> m.sackOf(0, what));
        edge.refuses("what -1 of a sack that a mill has", Edge.ARGUMENT, FULL_MILL, m -> m.sackOf(6, -1));
        edge.refuses("what 5 of a sack that a mill has", Edge.ARGUMENT, FULL_MILL, m -> m.sackOf(6, 5));
        edge.refuses("what 5 of a sack that is ground", Edge.ARGUMENT, FULL_MILL, m -> m.sackOf(0, 5));
        int[] first = {4, 101, 101, 40, 0};
        int[] last = {4, 106, 106, 40, 5};
        for (int what = 0; what <= 4; what++) {
            int number = what;
            edge.answers("of the first sack: " + what, first[what], FULL_MILL, m -> m.sackOf(1, number));
            edge.answers("of the last sack: " + what, last[what], FULL_MILL, m -> m.sackOf(6, number));
        }
    }

    private static void placeOfASack() {
        edge.answers("behind one that came ahead of it", 1, m -> {
            m.sack(0, 9, 5);
            m.sack(0, 9, 4);
        }, m -> m.sackOf(0, 4));
        edge.answers("moved up when the first is gone", 0, m -> {
            FULL_MILL.make(m);
            m.back(1);
        }, m -> m.sackOf(2, 4));
    }

    private static void whyNotOfNow() {
        edge.answers("the water behind a turning", 3, m -> {
            m.set(0, 1);
            m.set(1, 0);
            m.pond(0, 50, 0);
            m.sack(0, 999, 9);
            m.pass(3);
        }, m -> m.whyNot(0));
        edge.answers("the tide of now", 2, m -> {
            m.sack(0, 999, 9);
            m.pass(2);
        }, m -> m.whyNot(0));
        edge.answers("the settings of now", 3, m -> {
            m.sack(0, 999, 9);
            m.set(1, 10);
            m.set(2, 100);
            m.pass(1);
            m.set(0, 1);
        }, m -> m.whyNot(0));
    }

    private static void tideOfWhichHour() {
        edge.answers("the hour 0", 60, Edge.NEW, m -> m.tide(0));
        edge.answers("the greatest hour, 7 modulo 12", 10, Edge.NEW, m -> m.tide(Integer.MAX_VALUE));
        edge.refuses("the hour -1", Edge.ARGUMENT, Edge.NEW, m -> m.tide(-1));
        edge.refuses("the hour -12", Edge.ARGUMENT, Edge.NEW, m -> m.tide(-12));
        edge.refuses("the least hour", Edge.ARGUMENT, Edge.NEW, m -> m.tide(Integer.MIN_VALUE));
        edge.answers("an hour that is asked, not that of now", 60, m -> m.pass(5), m -> m.tide(0));
    }

    private static void countWhat() {
        edge.range("count, what: 0 to 14", Edge.ARGUMENT, 0, 14, TideMills::count);
    }

    private static void countOfTheMillThatTurned() {
        edge.answers("in the hour 0", TideMills.NONE, Edge.NEW, m -> m.count(1));
        edge.answers("in an idle hour", TideMills.NONE, m -> m.pass(1), m -> m.count(1));
        edge.answers("the lowest mill", 0, m -> {
            m.sack(0, 9, 9);
            m.pass(3);
        }, m -> m.count(1));
        edge.answers("the greatest mill", 4, m -> {
            m.sack(4, 9, 9);
            m.pass(3);
        }, m -> m.count(1));
        edge.answers("none in the hour behind that", TideMills.NONE, m -> {
            m.sack(4, 9, 9);
            m.pass(4);
        }, m -> m.count(1));
        edge.answers("it stays when the mill loses its sacks", 4, m -> {
            m.sack(4, 999, 9);
            m.pass(3);
            m.back(0);
        }, m -> m.count(1));
        edge.answers("none in the hour 0 that comes back", TideMills.NONE, m -> {
            m.sack(4, 9, 9);
            m.pass(3);
            m.undo();
        }, m -> m.count(1));
    }

    private static void countsOfSacks() {
        int[] counts = {3, 0, 2, 600, 20, 580, 8, 6, 1, 1, 1};
        for (int what = 0; what <= 10; what++) {
            int number = what;
            edge.answers("count " + what, counts[what], FULL_MILL, m -> m.count(number));
        }
    }

    /** In all hours that are idle or not, with ponds that are empty and full. */
    private static void waterAddsUp() {
        TideMills mills = Edge.made(FULL_MILL);
        for (int hour = 0; hour < 60; hour++) {
            mills.pass(1);
            edge.due("water that came is used or in ponds", mills.count(3), mills.count(4) + mills.count(5));
            edge.due("sacks that came are somewhere", mills.count(6),
                    mills.count(7) + mills.count(8) + mills.count(10));
            int turned = mills.count(2);
            int ground = 0;
            for (int mill = 0; mill < 5; mill++) {
                turned += mills.mill(mill, 9);
                ground += mills.mill(mill, 10);
            }
            edge.due("one mill turns in an hour, or it is idle", mills.count(0), turned);
            edge.due("sacks are ground by mills", mills.count(8), ground);
        }
    }
}
