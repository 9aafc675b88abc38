/** The boundary sentences of "The tide, mills", "Settings", and promises 1 to 6. */
public final class MillsEdgeTest {
    private static final Edge edge = new Edge("MillsEdgeTest");

    /** The tide of the hour 1 stands 30 over the sills. */
    private static final Edge.Setup SIXTY_IN_EACH_POND = mills -> mills.pass(1);

    private MillsEdgeTest() {
    }

    public static void main(String[] args) {
        newMills();
        newCreekIsEmpty();
        newBufferIsEmpty();
        newObjectsAreApart();
        pondOfWhichMill();
        pondCapacity();
        pondSill();
        pondNotBelowItsWater();
        pondReturnsThePreviousCapacity();
        pondExceptionsInTheirOrder();
        gateOfWhichMill();
        gateFrom();
        gateToIsNotLessThanFrom();
        gateReturnsTheHoursBefore();
        gateExceptionsInTheirOrder();
        gearOfWhichMill();
        gearTeeth();
        gearReturnsTurnsRoundedDown();
        gearExceptionsInTheirOrder();
        setWhich();
        setValues();
        setReturnsThePreviousValue();
        setExceptionsInTheirOrder();
        passHours();
        passCountsTheSacksOfItsHours();
        passIsUndoneAsOneCall();
        edge.end();
    }

    private static void newMills() {
        int[] atFirst = {200, 0, 20, 0, 11, 40, 10, 0, 940, 0, 0};
        for (int mill = 0; mill < 5; mill++) {
            for (int what = 0; what <= 10; what++) {
                int its = mill;
                int number = what;
                edge.answers("a mill has at first: " + what, atFirst[what], Edge.NEW, m -> m.mill(its, number));
            }
        }
        edge.range("there are 5 mills, from 0", Edge.INDEX, 0, 4, (m, mill) -> m.mill(mill, 0));
    }

    private static void newCreekIsEmpty() {
        edge.answers("in the hour 0", 0, Edge.NEW, m -> m.count(0));
        edge.answers("none turned in the hour 0", TideMills.NONE, Edge.NEW, m -> m.count(1));
        for (int what = 2; what <= 10; what++) {
            int number = what;
            edge.answers("nothing is counted at first: " + what, 0, Edge.NEW, m -> m.count(number));
        }
        int[] settings = {10, 20, 20};
        for (int setting = 0; setting < 3; setting++) {
            int its = setting;
            edge.answers("setting at first", settings[its], Edge.NEW, m -> m.count(11 + its));
        }
        edge.answers("no saved states", 0, Edge.NEW, m -> m.count(14));
        edge.refusesHere("no saved states", Edge.STATE, Edge.NEW, TideMills::undo);
        edge.refusesHere("without a snapshot", Edge.STATE, Edge.NEW, TideMills::restore);
        edge.answers("without sacks", TideMills.NONE, Edge.NEW, m -> m.sackOf(0, 0));
    }

    private static void newBufferIsEmpty() {
        edge.answers("an empty buffer", 0, Edge.NEW, TideMills::clearBuffer);
        edge.answers("an empty buffer", 0, Edge.NEW, TideMills::firstError);
        edge.refuses("an empty buffer is no works", Edge.ARGUMENT, Edge.NEW, TideMills::play);
    }

    private static void newObjectsAreApart() {
        TideMills one = new TideMills();
        TideMills other = new TideMills();
        String before = View.of(other);
        one.sack(0, 50, 2);
        one.gear(1, 20, 20);
        one.set(0, 3);
        one.pass(9);
        one.keep();
        one.append('+');
        edge.dueText("calls of one object change no other", before, View.of(other));
        edge.dueText("nor one that is made behind them", before, View.of(new TideMills()));
        edge.refusesHere("nor give it a snapshot", Edge.STATE, Edge.NEW, TideMills::restore);
    }

    private static void pondOfWhichMill() {
        edge.range("pond, mill: 0 to 4", Edge.INDEX, 0, 4, (m, mill) -> m.pond(mill, 300, 30));
        TideMills mills = Edge.made(m -> m.pond(4, 300, 30));
        edge.due("the last mill's pond", 300, mills.mill(4, 0));
        edge.due("not the one's before", 200, mills.mill(3, 0));
    }

    private static void pondCapacity() {
        edge.range("pond, capacity: 50 to 500", Edge.ARGUMENT, 50, 500, (m, capacity) -> m.pond(2, capacity, 30));
        edge.answers("capacity 50", 50, m -> m.pond(2, 50, 30), m -> m.mill(2, 0));
        edge.answers("capacity 500", 500, m -> m.pond(2, 500, 30), m -> m.mill(2, 0));
    }

    private static void pondSill() {
        edge.range("pond, sill: 0 to 60", Edge.ARGUMENT, 0, 60, (m, sill) -> m.pond(2, 300, sill));
        edge.answers("sill 0", 0, m -> m.pond(2, 300, 0), m -> m.mill(2, 2));
        edge.answers("sill 60", 60, m -> m.pond(2, 300, 60), m -> m.mill(2, 2));
    }

    private static int capacityBehind(TideMills mills, int capacity) {
        mills.pond(1, capacity, 20);
        return mills.mill(1, 0);
    }

    private static void pondNotBelowItsWater() {
        edge.answers("one more than its water", 61, SIXTY_IN_EACH_POND, m -> capacityBehind(m, 61));
        edge.answers("as much as its water", 60, SIXTY_IN_EACH_POND, m -> capacityBehind(m, 60));
        edge.refuses("one less than its water", Edge.STATE, SIXTY_IN_EACH_POND, m -> m.pond(1, 59, 20));
        edge.refuses("far less than its water", Edge.STATE, SIXTY_IN_EACH_POND, m -> m.pond(1, 50, 0));
        edge.answers("an empty pond", 50, Edge.NEW, m -> capacityBehind(m, 50));
        edge.answers("less than the water of others", 50, m -> {
            m.gate(1, 6, 6);
            m.pass(1);
        }, m -> capacityBehind(m, 50));
        Edge.Setup greatestPondIsFull = m -> {
            m.pond(1, 500, 0);
            m.pass(48);
        };
        edge.answers("a full pond of the greatest capacity", 500, greatestPondIsFull, m -> capacityBehind(m, 500));
        edge.refuses("one less than that", Edge.STATE, greatestPondIsFull, m -> m.pond(1, 499, 0));
    }

    private static void pondReturnsThePreviousCapacity() {
        edge.answers("the first capacity", 200, Edge.NEW, m -> m.pond(0, 200, 20));
        edge.answers("the least one", 50, m -> m.pond(0, 50, 20), m -> m.pond(0, 500, 20));
        edge.answers("the greatest one", 500, m -> m.pond(0, 500, 20), m -> m.pond(0, 50, 20));
    }

    private static void pondExceptionsInTheirOrder() {
        edge.refuses("no such mill is ahead of capacity", Edge.INDEX, Edge.NEW, m -> m.pond(5, 49, 20));
        edge.refuses("no such mill is ahead of sill", Edge.INDEX, Edge.NEW, m -> m.pond(-1, 200, 61));
        edge.refuses("capacity is ahead of water", Edge.ARGUMENT, SIXTY_IN_EACH_POND, m -> m.pond(0, 49, 20));
        edge.refuses("sill is ahead of water", Edge.ARGUMENT, SIXTY_IN_EACH_POND, m -> m.pond(0, 59, 61));
    }

    private static void gateOfWhichMill() {
        edge.range("gate, mill: 0 to 4", Edge.INDEX, 0, 4, (m, mill) -> m.gate(mill, 3, 5));
        TideMills mills = Edge.made(m -> m.gate(4, 3, 5));
        edge.due("the last mill's gate", 3, mills.mill(4, 3));
        edge.due("not the one's before", 0, mills.mill(3, 3));
    }

    private static void gateFrom() {
        edge.range("gate, from: 0 to 11", Edge.ARGUMENT, 0, 11, (m, from) -> m.gate(2, from, 11));
    }

    private static void gateToIsNotLessThanFrom() {
        edge.range("gate, to: from to 11, from 0", Edge.ARGUMENT, 0, 11, (m, to) -> m.gate(2, 0, to));
        edge.range("gate, to: from to 11, from 7", Edge.ARGUMENT, 7, 11, (m, to) -> m.gate(2, 7, to));
        edge.range("gate, to: from to 11, from 11", Edge.ARGUMENT, 11, 11, (m, to) -> m.gate(2, 11, to));
        edge.refuses("a gate does not go round midnight", Edge.ARGUMENT, Edge.NEW, m -> m.gate(2, 11, 0));
        edge.refuses("both below 0", Edge.ARGUMENT, Edge.NEW, m -> m.gate(2, -1, -1));
        edge.refuses("both above 11", Edge.ARGUMENT, Edge.NEW, m -> m.gate(2, 12, 12));
    }

    private static void gateReturnsTheHoursBefore() {
        edge.answers("all 12 at first", 12, Edge.NEW, m -> m.gate(0, 5, 5));
        edge.answers("one", 1, m -> m.gate(0, 5, 5), m -> m.gate(0, 0, 11));
        edge.answers("one at the end", 1, m -> m.gate(0, 11, 11), m -> m.gate(0, 0, 11));
        edge.answers("two", 2, m -> m.gate(0, 0, 1), m -> m.gate(0, 0, 11));
        edge.answers("eleven", 11, m -> m.gate(0, 1, 11), m -> m.gate(0, 0, 11));
        edge.answers("of this mill", 12, m -> m.gate(1, 5, 5), m -> m.gate(0, 5, 5));
    }

    private static void gateExceptionsInTheirOrder() {
        edge.refuses("no such mill is ahead of from", Edge.INDEX, Edge.NEW, m -> m.gate(5, 12, 12));
        edge.refuses("no such mill is ahead of to", Edge.INDEX, Edge.NEW, m -> m.gate(-1, 5, 4));
    }

    private static void gearOfWhichMill() {
        edge.range("gear, mill: 0 to 4", Edge.INDEX, 0, 4, (m, mill) -> m.gear(mill, 30, 20));
        TideMills mills = Edge.made(m -> m.gear(4, 30, 20));
        edge.due("the last mill's wheel", 30, mills.mill(4, 5));
        edge.due("not the one's before", 40, mills.mill(3, 5));
    }

    private static void gearTeeth() {
        edge.range("gear, wheel: 8 to 60", Edge.ARGUMENT, 8, 60, (m, wheel) -> m.gear(2, wheel, 20));
        edge.range("gear, stone: 8 to 60", Edge.ARGUMENT, 8, 60, (m, stone) -> m.gear(2, 30, stone));
        edge.refuses("a stone of 0 teeth", Edge.ARGUMENT, Edge.NEW, m -> m.gear(2, 30, 0));
        TideMills mills = Edge.made(m -> m.gear(2, 60, 8));
        edge.due("the most teeth", 60, mills.mill(2, 5));
        edge.due("the least teeth", 8, mills.mill(2, 6));
    }

    private static void gearReturnsTurnsRoundedDown() {
        edge.answers("the least: 13.33", 13, Edge.NEW, m -> m.gear(0, 8, 60));
        edge.answers("the most: 750", 750, Edge.NEW, m -> m.gear(0, 60, 8));
        edge.answers("as many teeth: 100", 100, Edge.NEW, m -> m.gear(0, 60, 60));
        edge.answers("one tooth less: 98.33", 98, Edge.NEW, m -> m.gear(0, 59, 60));
        edge.answers("one tooth more: 101.69", 101, Edge.NEW, m -> m.gear(0, 60, 59));
        edge.answers("then, and not before", 50, m -> m.gear(0, 60, 8), m -> m.gear(0, 8, 16));
    }

    private static void gearExceptionsInTheirOrder() {
        edge.refuses("no such mill is ahead of wheel", Edge.INDEX, Edge.NEW, m -> m.gear(5, 7, 8));
        edge.refuses("no such mill is ahead of stone", Edge.INDEX, Edge.NEW, m -> m.gear(-1, 8, 61));
    }

    private static void setWhich() {
        edge.range("set, setting: 0 to 2", Edge.INDEX, 0, 2, (m, setting) -> m.set(setting, 7));
        TideMills mills = Edge.made(m -> m.set(1, 7));
        edge.due("the setting before stays", 10, mills.count(11));
        edge.due("the setting behind stays", 20, mills.count(13));
    }

    private static void setValues() {
        edge.range("setting 0: 1 to 15", Edge.ARGUMENT, 1, 15, (m, value) -> m.set(0, value));
        edge.range("setting 1: 0 to 100", Edge.ARGUMENT, 0, 100, (m, value) -> m.set(1, value));
        edge.range("setting 2: 5 to 100", Edge.ARGUMENT, 5, 100, (m, value) -> m.set(2, value));
    }

    private static void setReturnsThePreviousValue() {
        int[] first = {10, 20, 20};
        int[] least = {1, 0, 5};
        int[] most = {15, 100, 100};
        for (int setting = 0; setting < 3; setting++) {
            int its = setting;
            edge.answers("its first value", first[its], Edge.NEW, m -> m.set(its, first[its]));
            edge.answers("its least", least[its], m -> m.set(its, least[its]), m -> m.set(its, most[its]));
            edge.answers("its most", most[its], m -> m.set(its, most[its]), m -> m.set(its, least[its]));
            edge.answers("it is set", most[its], m -> m.set(its, most[its]), m -> m.count(11 + its));
        }
    }

    private static void setExceptionsInTheirOrder() {
        edge.refuses("no such setting is ahead of value", Edge.INDEX, Edge.NEW, m -> m.set(3, 0));
        edge.refuses("no such setting is ahead of value", Edge.INDEX, Edge.NEW, m -> m.set(-1, 101));
    }

    private static void passHours() {
        edge.range("pass, hours: 1 to 48", Edge.ARGUMENT, 1, 48, TideMills::pass);
        edge.answers("one hour", 1, m -> m.pass(1), m -> m.count(0));
        edge.answers("48 hours", 48, m -> m.pass(48), m -> m.count(0));
        edge.answers("a day has no end there", 96, m -> {
            m.pass(48);
            m.pass(48);
        }, m -> m.count(0));
    }

    private static void passCountsTheSacksOfItsHours() {
        Edge.Setup oneInTheHourThree = m -> m.sack(0, 1, 9);
        edge.answers("none, one hour before", 0, oneInTheHourThree, m -> m.pass(2));
        edge.answers("one in its last hour", 1, oneInTheHourThree, m -> m.pass(3));
        edge.answers("not those before", 0, m -> {
            m.sack(0, 1, 9);
            m.pass(3);
        }, m -> m.pass(48));
        edge.answers("without sacks", 0, Edge.NEW, m -> m.pass(48));
    }

    private static void passIsUndoneAsOneCall() {
        TideMills mills = Edge.made(m -> m.pass(48));
        edge.due("48 hours are saved once", 1, mills.count(14));
        edge.due("and undone once", 0, mills.undo());
        edge.due("to the hour before", 0, mills.count(0));
    }
}
