/** The boundary sentences of "Undo, the snapshot", of "Exceptions", and of promises 14 to 16. */
public final class UndoEdgeTest {
    private static final Edge edge = new Edge("UndoEdgeTest");

    /** Behind 6 calls that are undoable: a sack is ground, late, one is taken back, and two hours were idle. */
    private static final Edge.Setup BUSY = mills -> {
        mills.sack(0, 70, 2);
        mills.sack(0, 500, 9);
        mills.sack(1, 300, 8);
        mills.sack(3, 40, 50);
        mills.pass(4);
        mills.back(3);
    };
    /** In the hour 9, of which the snapshot knows the first two. */
    private static final Edge.Setup KEPT = mills -> {
        mills.sack(2, 999, 9);
        mills.pass(2);
        mills.keep();
        mills.pass(7);
    };
    /** Sacks of which each is another one in all that it has. */
    private static final Edge.Setup SACKS = mills -> {
        mills.sack(2, 400, 10);
        mills.sack(2, 40, 9);
        mills.sack(2, 500, 11);
        mills.sack(2, 60, 14);
        mills.sack(3, 700, 12);
        mills.sack(3, 80, 13);
        mills.pass(5);
    };

    private UndoEdgeTest() {
    }

    public static void main(String[] args) {
        eachUndoableMethodSaves();
        sacksComeBackAsTheyWere();
        alsoIfItChangesNothing();
        sixStatesAtMost();
        oldestIsDroppedFirst();
        undoneStatesMakeRoom();
        undoWithoutSavedStates();
        undoIsNotUndone();
        otherMethodsSaveNothing();
        undoBringsBackAllThatIsCounted();
        undoLeavesTheBuffer();
        undoLeavesTheSnapshot();
        keepReturnsTheHour();
        keepInPlaceOfTheOneBefore();
        keepIsNotTheStateItself();
        restoreWithoutASnapshot();
        restoreOfANewObject();
        restoreBringsBackAllButTheRest();
        restoreStays();
        restoreIsUndoable();
        lastPromisedCall();
        edge.end();
    }

    /** One state more is saved, or the oldest one dropped, and it is that from before the call. */
    private static void saves(String call, Edge.Setup setup, Edge.Call made) {
        TideMills mills = Edge.made(setup);
        String before = View.ofState(mills);
        int saved = mills.count(14);
        made.answer(mills);
        int more = Math.min(saved + 1, 6);
        edge.due(call + " saves the state", more, mills.count(14));
        edge.due(call + " is undone", more - 1, mills.undo());
        edge.dueText(call + " is undone: ", before, View.ofState(mills));
    }

    private static void savesHereAndThere(String call, Edge.Call made) {
        saves(call + ", on few calls", KEPT, made);
        saves(call + ", on many calls", m -> {
            BUSY.make(m);
            m.keep();
            m.pass(1);
            m.sack(2, 5, 5);
        }, made);
    }

    private static double play(TideMills mills, String text) {
        Edge.type(mills, text);
        return mills.play();
    }

    private static void eachUndoableMethodSaves() {
        savesHereAndThere("pond", m -> m.pond(1, 400, 30));
        savesHereAndThere("gate", m -> m.gate(1, 4, 6));
        savesHereAndThere("gear", m -> m.gear(1, 20, 30));
        savesHereAndThere("set of the setting 0", m -> m.set(0, 3));
        savesHereAndThere("set of the setting 1", m -> m.set(1, 3));
        savesHereAndThere("set of the setting 2", m -> m.set(2, 30));
        savesHereAndThere("pass", m -> m.pass(48));
        savesHereAndThere("sack", m -> m.sack(4, 5, 5));
        savesHereAndThere("carry", m -> m.carry(m.sackAt(2, 0), 4));
        savesHereAndThere("back", m -> m.back(m.sackAt(2, 0)));
        savesHereAndThere("play", m -> play(m, "s4,9,9;g0,9,9;+3"));
        savesHereAndThere("restore", TideMills::restore);
    }

    /** With their numbers, hardnesses, rests, dues and places, whichever of them moved. */
    private static void sacksComeBackAsTheyWere() {
        for (int sack = 0; sack < 6; sack++) {
            int its = sack;
            edge.dueText("a sack that mill 2 or 3 has", "" + (sack != 1), "" + (Edge.made(SACKS).sackOf(its, 0) > 0));
            if (sack != 1) {
                saves("back of the sack " + sack, SACKS, m -> m.back(its));
                saves("carry of the sack " + sack, SACKS, m -> m.carry(its, 4));
                saves("carry to others of the sack " + sack, SACKS, m -> m.carry(its, 5 - m.sackOf(its, 0)));
            }
        }
        for (int due = 8; due <= 15; due++) {
            int its = due;
            saves("a sack that is due in the hour " + due, SACKS, m -> m.sack(2, 3, its));
            saves("such a sack in a text", SACKS, m -> play(m, "s2,3," + its));
        }
        for (int hours = 1; hours <= 48; hours++) {
            int its = hours;
            saves("the hours " + hours, SACKS, m -> m.pass(its));
        }
        saves("a restore of no sacks", m -> {
            m.keep();
            SACKS.make(m);
        }, TideMills::restore);
        saves("a restore of other sacks", m -> {
            SACKS.make(m);
            m.keep();
            m.back(0);
            m.carry(4, 2);
            m.sack(3, 9, 9);
            m.sack(2, 8, 8);
        }, TideMills::restore);
    }

    private static void alsoIfItChangesNothing() {
        savesHereAndThere("pond of the same", m -> m.pond(1, 200, 20));
        savesHereAndThere("gate of the same", m -> m.gate(1, 0, 11));
        savesHereAndThere("gear of the same", m -> m.gear(1, 40, 10));
        savesHereAndThere("set of the same", m -> m.set(0, 10));
        saves("restore of the same", TideMills::keep, TideMills::restore);
        saves("play of nothing", m -> {
            play(m, "s2,1,1;s2,1,1;s2,1,1;s2,1,1;s2,1,1;s2,1,1");
        }, m -> play(m, "s2,1,1;+1"));
    }

    private static void sixStatesAtMost() {
        TideMills mills = new TideMills();
        for (int call = 1; call <= 20; call++) {
            mills.pass(1);
            edge.due("saved states behind call " + call, call < 6 ? call : 6, mills.count(14));
        }
        mills.keep();
        mills.restore();
        edge.due("also with a restore", 6, mills.count(14));
        Edge.type(mills, "+1");
        mills.play();
        edge.due("also with a play", 6, mills.count(14));
    }

    private static TideMills passed(int calls) {
        TideMills mills = new TideMills();
        for (int call = 0; call < calls; call++) {
            mills.pass(1);
        }
        return mills;
    }

    private static void undoneFrom(int calls) {
        TideMills mills = passed(calls);
        int saved = Math.min(calls, 6);
        for (int left = saved - 1; left >= 0; left--) {
            edge.due("states that are left of " + calls, left, mills.undo());
            edge.due("the hour before", calls - saved + left, mills.count(0));
        }
        edge.refusesHere("none is left of " + calls, Edge.STATE, m -> {
            for (int call = 0; call < calls; call++) {
                m.pass(1);
            }
            for (int undone = 0; undone < saved; undone++) {
                m.undo();
            }
        }, TideMills::undo);
    }

    private static void oldestIsDroppedFirst() {
        undoneFrom(1);
        undoneFrom(5);
        undoneFrom(6);
        undoneFrom(7);
        undoneFrom(8);
        undoneFrom(13);
    }

    private static void undoneStatesMakeRoom() {
        TideMills mills = passed(7);
        mills.undo();
        mills.undo();
        mills.pass(40);
        edge.due("one of the two that are dropped is saved again", 5, mills.count(14));
        mills.pass(40);
        edge.due("both are", 6, mills.count(14));
        mills.pass(40);
        edge.due("the oldest is dropped again", 6, mills.count(14));
        int[] hours = {85, 45, 5, 4, 3, 2};
        for (int at = 0; at < hours.length; at++) {
            edge.due("states that are left", 5 - at, mills.undo());
            edge.due("the hour of a state", hours[at], mills.count(0));
        }
    }

    private static void undoWithoutSavedStates() {
        edge.refusesHere("none was saved", Edge.STATE, Edge.NEW, TideMills::undo);
        edge.refusesHere("none by a keep", Edge.STATE, TideMills::keep, TideMills::undo);
        edge.refusesHere("none by a text", Edge.STATE, Edge.typed("+1"), TideMills::undo);
        edge.refusesHere("the only one is undone", Edge.STATE, m -> {
            m.pass(1);
            m.undo();
        }, TideMills::undo);
    }

    private static void undoIsNotUndone() {
        TideMills mills = passed(3);
        mills.undo();
        mills.undo();
        edge.due("an undo behind an undo goes further back", 1, mills.count(0));
        edge.due("and saves nothing", 1, mills.count(14));
    }

    private static void otherMethodsSaveNothing() {
        TideMills mills = passed(2);
        Edge.Call[] calls = {m -> m.append('+'), TideMills::firstError, TideMills::clearBuffer, TideMills::keep,
            m -> m.mill(0, 0), m -> m.sackAt(0, 0), m -> m.sackOf(0, 0), m -> m.whyNot(0), m -> m.tide(0),
            m -> m.count(0), m -> m.next(0), TideMills::chosen, m -> m.ifPassed(48, 0), m -> m.groundIn(0),
            m -> m.bestStone(0), TideMills::inTime, TideMills::digest};
        for (Edge.Call call : calls) {
            call.answer(mills);
            edge.due("a method that is not marked undoable saves nothing", 2, mills.count(14));
        }
        edge.due("the latest saved state is that of the last pass", 1, mills.undo());
        edge.due("the latest saved state is that of the last pass", 1, mills.count(0));
    }

    private static void undoBringsBackAllThatIsCounted() {
        TideMills mills = Edge.made(BUSY);
        int[] counts = {4, 1, 2, 600, 40, 560, 4, 2, 1, 1, 1, 10, 20, 20, 6};
        for (int what = 0; what <= 14; what++) {
            edge.due("count " + what, counts[what], mills.count(what));
        }
        mills.undo();
        mills.undo();
        int[] before = {0, -1, 0, 0, 0, 0, 4, 4, 0, 0, 0, 10, 20, 20, 4};
        for (int what = 0; what <= 14; what++) {
            edge.due("count " + what + " behind undo", before[what], mills.count(what));
        }
        edge.due("hours of mill 0 behind undo", 0, mills.mill(0, 9));
        edge.due("sacks that mill 0 ground behind undo", 0, mills.mill(0, 10));
        edge.due("a ground sack is there again", 70, mills.sackOf(0, 2));
    }

    private static void undoLeavesTheBuffer() {
        edge.answers("a character that came behind the state stays", 1, m -> {
            m.pass(1);
            m.append('+');
            m.undo();
        }, TideMills::clearBuffer);
        edge.answers("a buffer that was cleared behind the state stays empty", 0, m -> {
            m.append('+');
            m.pass(1);
            m.clearBuffer();
            m.undo();
        }, TideMills::clearBuffer);
    }

    private static void undoLeavesTheSnapshot() {
        edge.answers("one that was taken behind the state stays", 1, m -> {
            m.pass(1);
            m.keep();
            m.undo();
        }, TideMills::restore);
        edge.answers("one that was replaced behind the state stays replaced", 2, m -> {
            m.pass(1);
            m.keep();
            m.pass(1);
            m.keep();
            m.undo();
        }, TideMills::restore);
    }

    private static void keepReturnsTheHour() {
        edge.answers("the hour 0", 0, Edge.NEW, TideMills::keep);
        edge.answers("the hour 48", 48, m -> m.pass(48), TideMills::keep);
        edge.answers("the hour behind an undo", 0, m -> {
            m.pass(48);
            m.undo();
        }, TideMills::keep);
    }

    private static void keepInPlaceOfTheOneBefore() {
        TideMills mills = new TideMills();
        mills.keep();
        mills.pass(3);
        mills.keep();
        mills.pass(3);
        edge.due("the later one", 3, mills.restore());
        edge.due("the earlier one is no more", 3, mills.restore());
        mills.undo();
        mills.undo();
        mills.undo();
        mills.undo();
        edge.due("also when an earlier state is kept", 0, mills.keep());
        mills.pass(9);
        edge.due("that one", 0, mills.restore());
    }

    private static void keepIsNotTheStateItself() {
        TideMills mills = Edge.made(BUSY);
        String kept = View.ofState(mills);
        mills.keep();
        mills.pond(0, 333, 33);
        mills.gate(1, 3, 3);
        mills.gear(2, 33, 33);
        mills.set(0, 3);
        mills.back(2);
        mills.pass(30);
        mills.restore();
        edge.dueText("what changes behind a keep does not change the snapshot", kept, View.ofState(mills));
        mills.carry(1, 2);
        mills.sack(3, 3, 3);
        mills.pass(30);
        mills.restore();
        edge.dueText("nor what changes behind a restore", kept, View.ofState(mills));
    }

    private static void restoreWithoutASnapshot() {
        edge.refusesHere("on a new object", Edge.STATE, Edge.NEW, TideMills::restore);
        edge.refusesHere("with saved states alone", Edge.STATE, BUSY, TideMills::restore);
        edge.refusesHere("behind an undo", Edge.STATE, m -> {
            m.pass(1);
            m.undo();
        }, TideMills::restore);
    }

    private static void restoreOfANewObject() {
        TideMills mills = new TideMills();
        String before = View.ofState(mills);
        mills.keep();
        BUSY.make(mills);
        edge.due("to the hour 0", 0, mills.restore());
        edge.dueText("all as in a new object", before, View.ofState(mills));
        edge.due("the next sack's number", 0, mills.sack(0, 5, 5));
    }

    private static void restoreBringsBackAllButTheRest() {
        TideMills mills = Edge.made(KEPT);
        Edge.type(mills, "+4");
        edge.due("saved states stay saved", 3, mills.count(14));
        edge.due("the hour then", 2, mills.restore());
        edge.due("one more is saved", 4, mills.count(14));
        edge.due("the buffer stays", 2, mills.clearBuffer());
    }

    private static void restoreStays() {
        TideMills mills = Edge.made(KEPT);
        for (int times = 0; times < 8; times++) {
            edge.due("the snapshot stays", 2, mills.restore());
        }
        edge.due("each one saved, six at most", 6, mills.count(14));
        for (int left = 5; left >= 0; left--) {
            edge.due("each one undone", left, mills.undo());
        }
        edge.due("also behind undo", 2, mills.restore());
    }

    private static void restoreIsUndoable() {
        TideMills mills = Edge.made(KEPT);
        String before = View.of(mills);
        mills.restore();
        mills.undo();
        edge.dueText("undone", before, View.of(mills));
        mills.restore();
        mills.pass(1);
        mills.undo();
        edge.due("the state that was restored", 2, mills.count(0));
        mills.undo();
        edge.due("the state from before", 9, mills.count(0));
    }

    private static void lastPromisedCall() {
        TideMills mills = new TideMills();
        for (int call = 1; call < 512; call++) {
            mills.pass(48);
        }
        edge.due("the 512th call", 0, mills.pass(48));
        edge.due("its hour, looked at behind it", 512 * 48, mills.count(0));
    }
}
