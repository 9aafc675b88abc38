/** The boundary sentences of promises 23 to 29. */
public final class ForecastEdgeTest {
    private static final Edge edge = new Edge("ForecastEdgeTest");

    /** In the hour 4 all can turn, in the order 2, 3, 0, 1, 4. */
    private static final Edge.Setup ALL_CAN_TURN = mills -> {
        mills.pond(3, 150, 20);
        mills.pass(4);
        int[] dues = {30, 30, 29, 30, 9999};
        for (int mill = 0; mill < 5; mill++) {
            mills.sack(mill, 500, dues[mill]);
        }
    };

    /** In the hour 3 mill 0 grinds both its sacks, one late; in the hours 4 and 5 mill 1 grinds its own. */
    private static final Edge.Setup TWO_MILLS = mills -> {
        mills.sack(0, 50, 2);
        mills.sack(0, 70, 9);
        mills.sack(1, 210, 10);
    };

    private ForecastEdgeTest() {
    }

    public static void main(String[] args) {
        nothingIsChanged();
        nextOfRank();
        nextIfFewCanTurn();
        rankBelowZero();
        chosenIsNextOfZero();
        chosenIfNoneCanTurn();
        ifPassedHours();
        ifPassedWhat();
        ifPassedIsWhatPassBrings();
        groundInTheNextHour();
        groundInTwoHundredHours();
        groundInOfNoSuchSack();
        groundInIfOnlyHoursPass();
        bestStoneOfWhichMill();
        bestStoneOfSeveralTheMost();
        bestStoneLeastAndMost();
        bestStoneStepsOfFour();
        bestStoneInADay();
        bestStoneForAllSacks();
        inTimeOfNone();
        inTimeOfSome();
        digests();
        edge.end();
    }

    private static void nothingIsChanged() {
        Edge.Setup[] setups = {Edge.NEW, ALL_CAN_TURN, TWO_MILLS};
        for (Edge.Setup setup : setups) {
            Edge.Setup kept = m -> {
                setup.make(m);
                m.keep();
                Edge.type(m, "s0,");
            };
            edge.changesNothing("next", kept, m -> m.next(4));
            edge.changesNothing("chosen", kept, TideMills::chosen);
            edge.changesNothing("ifPassed", kept, m -> m.ifPassed(48, 3));
            edge.changesNothing("groundIn", kept, m -> m.groundIn(0));
            edge.changesNothing("groundIn of no sack", kept, m -> m.groundIn(-1));
            edge.changesNothing("bestStone", kept, m -> m.bestStone(0));
            edge.changesNothing("inTime", kept, TideMills::inTime);
            edge.changesNothing("digest", kept, TideMills::digest);
        }
    }

    private static void nextOfRank() {
        int[] order = {2, 3, 0, 1, 4};
        for (int rank = 0; rank < 5; rank++) {
            int its = rank;
            edge.answers("next of " + rank, order[rank], ALL_CAN_TURN, m -> m.next(its));
        }
        edge.answers("next of 5, when all can turn", TideMills.NONE, ALL_CAN_TURN, m -> m.next(5));
        edge.answers("next of the greatest rank", TideMills.NONE, ALL_CAN_TURN, m -> m.next(Integer.MAX_VALUE));
    }

    private static void nextIfFewCanTurn() {
        edge.answers("none can turn", TideMills.NONE, Edge.NEW, m -> m.next(0));
        edge.answers("none can turn, though they have sacks", TideMills.NONE, TWO_MILLS, m -> m.next(0));
        Edge.Setup one = m -> {
            m.pass(4);
            m.sack(4, 9, 9);
        };
        edge.answers("one can turn", 4, one, m -> m.next(0));
        edge.answers("none in its place", TideMills.NONE, one, m -> m.next(1));
        Edge.Setup four = m -> {
            ALL_CAN_TURN.make(m);
            m.back(0);
        };
        edge.answers("the last of four", 4, four, m -> m.next(3));
        edge.answers("behind the last of four", TideMills.NONE, four, m -> m.next(4));
    }

    private static void rankBelowZero() {
        edge.refuses("rank -1", Edge.ARGUMENT, ALL_CAN_TURN, m -> m.next(-1));
        edge.refuses("the least rank", Edge.ARGUMENT, ALL_CAN_TURN, m -> m.next(Integer.MIN_VALUE));
        edge.refuses("rank -1 when none can turn", Edge.ARGUMENT, Edge.NEW, m -> m.next(-1));
    }

    private static void chosenIsNextOfZero() {
        edge.answers("the earliest due", 2, ALL_CAN_TURN, TideMills::chosen);
        edge.answers("the greatest head", 3, m -> {
            ALL_CAN_TURN.make(m);
            m.back(2);
        }, TideMills::chosen);
        edge.answers("the lowest", 0, m -> {
            ALL_CAN_TURN.make(m);
            m.back(2);
            m.back(3);
        }, TideMills::chosen);
        TideMills mills = Edge.made(ALL_CAN_TURN);
        for (int hour = 0; hour < 60; hour++) {
            edge.due("the same as next of 0", mills.next(0), mills.chosen());
            mills.pass(1);
        }
    }

    private static void chosenIfNoneCanTurn() {
        edge.answers("no sacks", TideMills.NONE, m -> m.pass(4), TideMills::chosen);
        edge.answers("no head", TideMills.NONE, TWO_MILLS, TideMills::chosen);
    }

    private static void ifPassedHours() {
        edge.range("ifPassed, hours: 1 to 48", Edge.ARGUMENT, 1, 48, (m, hours) -> m.ifPassed(hours, 0));
        edge.refuses("hours and what out of range", Edge.ARGUMENT, Edge.NEW, m -> m.ifPassed(49, 4));
        edge.answers("one hour, idle", 1, Edge.NEW, m -> m.ifPassed(1, 2));
        edge.answers("48 hours, idle", 48, Edge.NEW, m -> m.ifPassed(48, 2));
    }

    private static void ifPassedWhat() {
        edge.range("ifPassed, what: 0 to 3", Edge.ARGUMENT, 0, 3, (m, what) -> m.ifPassed(1, what));
        int[][] due = {{0, 0, 2, 0}, {2, 1, 2, 20}, {2, 1, 2, 40}, {3, 1, 2, 60}};
        for (int hours = 2; hours <= 5; hours++) {
            for (int what = 0; what <= 3; what++) {
                int its = hours;
                int number = what;
                edge.answers("ifPassed of " + hours + ", " + what, due[hours - 2][what], TWO_MILLS,
                        m -> m.ifPassed(its, number));
            }
        }
    }

    private static void ifPassedIsWhatPassBrings() {
        Edge.Setup withCounts = m -> {
            TWO_MILLS.make(m);
            m.pass(3);
            ALL_CAN_TURN.make(m);
        };
        int[] counts = {8, 9, 2, 4};
        for (int hours = 1; hours <= 48; hours++) {
            TideMills mills = Edge.made(withCounts);
            int[] before = {mills.count(8), mills.count(9), mills.count(2), mills.count(4)};
            int[] told = new int[4];
            for (int what = 0; what <= 3; what++) {
                told[what] = mills.ifPassed(hours, what);
            }
            mills.pass(hours);
            for (int what = 0; what <= 3; what++) {
                edge.due("what " + hours + " hours bring: " + what, mills.count(counts[what]) - before[what],
                        told[what]);
            }
        }
    }

    private static void groundInTheNextHour() {
        edge.answers("in the next hour", 1, m -> {
            m.pass(2);
            m.sack(0, 1, 9);
        }, m -> m.groundIn(0));
        edge.answers("in the hour behind that", 2, m -> {
            m.pass(1);
            m.sack(0, 1, 9);
        }, m -> m.groundIn(0));
        edge.answers("the second sack of an hour", 3, TWO_MILLS, m -> m.groundIn(1));
        edge.answers("a sack of another mill", 5, TWO_MILLS, m -> m.groundIn(2));
    }

    /** The mill turns in the hours 6, 18, 30 and so on alone, 13 times in each; the last of these is the hour 210. */
    private static Edge.Setup groundInTheHour210(int from) {
        return m -> {
            m.set(1, 100);
            m.set(2, 5);
            m.gear(0, 8, 60);
            m.pond(0, 50, 0);
            m.pass(from);
            m.sack(0, 13 * 17, 9999);
        };
    }

    private static void groundInTwoHundredHours() {
        edge.answers("in 199 hours", 199, groundInTheHour210(11), m -> m.groundIn(0));
        edge.answers("in 200 hours", 200, groundInTheHour210(10), m -> m.groundIn(0));
        edge.answers("not in 200, but in 201", TideMills.NONE, groundInTheHour210(9), m -> m.groundIn(0));
        edge.answers("never", TideMills.NONE, m -> {
            m.pond(0, 200, 60);
            m.sack(0, 1, 9);
        }, m -> m.groundIn(0));
    }

    private static void groundInOfNoSuchSack() {
        int[] sacks = {-1, Integer.MIN_VALUE, 3, Integer.MAX_VALUE};
        for (int sack : sacks) {
            edge.answers("no mill has such a sack: " + sack, TideMills.NONE, TWO_MILLS, m -> m.groundIn(sack));
        }
        edge.answers("none came", TideMills.NONE, Edge.NEW, m -> m.groundIn(0));
        edge.answers("one that is ground", TideMills.NONE, m -> {
            TWO_MILLS.make(m);
            m.pass(3);
        }, m -> m.groundIn(0));
        edge.answers("one that is taken back", TideMills.NONE, m -> {
            TWO_MILLS.make(m);
            m.back(2);
        }, m -> m.groundIn(2));
    }

    private static void groundInIfOnlyHoursPass() {
        TideMills mills = Edge.made(TWO_MILLS);
        for (int left = 5; left >= 1; left--) {
            edge.due("one hour less with each that passes", left, mills.groundIn(2));
            mills.pass(1);
        }
        edge.due("none when it is ground", TideMills.NONE, mills.groundIn(2));
        edge.due("it is ground by then", 3, mills.count(8));
    }

    private static void bestStoneOfWhichMill() {
        edge.range("bestStone, mill: 0 to 4", Edge.INDEX, 0, 4, TideMills::bestStone);
    }

    /** The pond has 100 in the hours 2 and 14; in the hours 6 and 18 its stone turns 2000 times by its teeth. */
    private static Edge.Setup twoTurnsADay(int hour, int hardness) {
        return m -> {
            m.gate(0, 1, 2);
            m.set(1, 50);
            m.set(2, 100);
            m.pass(hour);
            m.sack(0, hardness, 40);
        };
    }

    private static void bestStoneOfSeveralTheMost() {
        edge.answers("no sacks: all are the same", 60, Edge.NEW, m -> m.bestStone(0));
        edge.answers("a sack that each stone grinds", 60, m -> m.sack(0, 1, 9), m -> m.bestStone(0));
        edge.answers("a sack that none grinds", 60, m -> {
            m.pond(0, 200, 60);
            m.sack(0, 1, 9);
        }, m -> m.bestStone(0));
        edge.answers("a mill that has none, of which another has", 60, TWO_MILLS, m -> m.bestStone(3));
        edge.answers("the most of those that do all", 40, twoTurnsADay(1, 100), m -> m.bestStone(0));
    }

    private static void bestStoneLeastAndMost() {
        edge.answers("the least teeth, 8: 250 twice", 8, twoTurnsADay(1, 500), m -> m.bestStone(0));
        edge.answers("also if they do not do all", 8, twoTurnsADay(1, 999), m -> m.bestStone(0));
        edge.answers("the most teeth, 60: 33 twice", 60, twoTurnsADay(1, 66), m -> m.bestStone(0));
        edge.answers("and not 60 for one more: 35 twice by 56", 56, twoTurnsADay(1, 67), m -> m.bestStone(0));
        edge.answers("8 again, for one more than 166 twice by 12", 8, twoTurnsADay(1, 333), m -> m.bestStone(0));
        edge.answers("12 for 166 twice", 12, twoTurnsADay(1, 332), m -> m.bestStone(0));
        edge.answers("whatever stone it has", 12, m -> {
            m.gear(0, 40, 59);
            twoTurnsADay(1, 332).make(m);
        }, m -> m.bestStone(0));
    }

    private static void bestStoneStepsOfFour() {
        for (int stone = 8; stone <= 60; stone += 4) {
            int its = stone;
            edge.answers("the teeth by which it is just ground", stone, twoTurnsADay(1, 2 * (2000 / stone)),
                    m -> m.bestStone(0));
            edge.answers("four less for one more", stone == 8 ? 8 : stone - 4,
                    twoTurnsADay(1, 2 * (2000 / its) + 1), m -> m.bestStone(0));
        }
    }

    /** A third turn in the day would grind 100 by 60 teeth. */
    private static void bestStoneInADay() {
        edge.answers("the hours 6 and 18, 25 hours to the hour 30", 40, twoTurnsADay(5, 100), m -> m.bestStone(0));
        edge.answers("the hours 18 and 30, 24 hours to the hour 30", 40, m -> {
            twoTurnsADay(5, 1).make(m);
            m.pass(1);
            m.sack(0, 100, 40);
        }, m -> m.bestStone(0));
    }

    /** In the hours 6 and 18 one of two mills turns, 400 times by 10 teeth: mill 0 as long as it has a sack. */
    private static void bestStoneForAllSacks() {
        Edge.Setup bothMills = m -> {
            m.set(1, 100);
            m.set(2, 5);
            m.pond(0, 50, 0);
            m.pond(1, 50, 0);
            m.pass(1);
            m.sack(0, 250, 40);
            m.sack(1, 333, 41);
        };
        edge.answers("250 in the hour 6, as the hour 18 is better left to mill 1", 16, bothMills,
                m -> m.bestStone(0));
        edge.answers("333 in the hour 18", 12, bothMills, m -> m.bestStone(1));
        edge.answers("250 in both hours, when mill 1 has no sacks", 32, m -> {
            bothMills.make(m);
            m.back(1);
        }, m -> m.bestStone(0));
    }

    private static void inTimeOfNone() {
        edge.answers("none came", 1.0, Edge.NEW, TideMills::inTime);
        edge.answers("none was ground", 1.0, m -> m.sack(0, 999, 1), TideMills::inTime);
        edge.answers("one was taken back", 1.0, m -> {
            m.sack(0, 999, 1);
            m.pass(3);
            m.back(0);
        }, TideMills::inTime);
    }

    private static double inTimeWithDues(int... dues) {
        TideMills mills = new TideMills();
        for (int due : dues) {
            mills.sack(0, 1, due);
        }
        mills.pass(3);
        return mills.inTime();
    }

    private static void inTimeOfSome() {
        edge.due("the only one, in its hour", 1.0, inTimeWithDues(3));
        edge.due("the only one, late", 0.0, inTimeWithDues(2));
        edge.due("one of two", 0.5, inTimeWithDues(2, 3));
        edge.due("one of three", 1.0 / 3.0, inTimeWithDues(2, 2, 3));
        edge.due("two of three", 2.0 / 3.0, inTimeWithDues(2, 3, 3));
        edge.due("one of six", 1.0 / 6.0, inTimeWithDues(2, 2, 2, 2, 2, 3));
        edge.due("five of six", 5.0 / 6.0, inTimeWithDues(2, 3, 3, 3, 3, 3));
        edge.due("all of six", 1.0, inTimeWithDues(3, 3, 3, 3, 3, 3));
        edge.due("none of six", 0.0, inTimeWithDues(1, 2, 1, 2, 1, 2));
    }

    private static void digestOf(String state, Edge.Setup setup, String text) {
        TideMills mills = Edge.made(setup);
        Edge.type(mills, text);
        edge.due("digest of " + state, 0, DueDigest.of(mills, text) - mills.digest());
    }

    private static void digests() {
        digestOf("a new object", Edge.NEW, "");
        digestOf("a buffer of one character, the least", Edge.NEW, "!");
        digestOf("a full buffer of the greatest", Edge.NEW, "~".repeat(60));
        digestOf("an empty buffer that was full", m -> {
            Edge.type(m, "~".repeat(60));
            m.clearBuffer();
        }, "");
        digestOf("mills that all can turn", ALL_CAN_TURN, "+");
        Edge.Setup full = m -> {
            for (int sack = 0; sack < 30; sack++) {
                m.sack(sack / 6, 999, 9999 - sack);
            }
        };
        digestOf("mills that are all full", full, "s0,1,1");
        digestOf("a first sack that is not ground in 200 hours", groundInTheHour210(9), "");
        digestOf("a first sack that is ground in 200 hours", groundInTheHour210(10), "");
        for (int late = 0; late <= 6; late++) {
            int its = late;
            digestOf("a share in time", m -> {
                for (int sack = 0; sack < 6; sack++) {
                    m.sack(0, 1, sack < its ? 2 : 3);
                }
                m.pass(3);
            }, "");
        }
    }
}
