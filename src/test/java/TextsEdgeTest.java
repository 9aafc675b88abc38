/** The boundary sentences of "Input text", and of promises 10 to 13. */
public final class TextsEdgeTest {
    private static final Edge edge = new Edge("TextsEdgeTest");

    /** 59 characters, 20 hours. */
    private static final String TWENTY_PARTS = "+1;".repeat(19) + "+1";
    private static final Edge.Setup FULL_MILL = mills -> {
        for (int sack = 0; sack < 6; sack++) {
            mills.sack(2, 100, 30);
        }
    };

    private TextsEdgeTest() {
    }

    public static void main(String[] args) {
        appendWhichCodes();
        appendToTheLastPlace();
        appendExceptionsInTheirOrder();
        clearEmptyAndFull();
        noErrorInAnEmptyBuffer();
        errorAtTheFirstAndTheLastCharacter();
        onlyTheFirstErrorIsTold();
        whatMayFollow();
        textsOfAnyLengthMayFollow();
        numbersWithoutALeadingZero();
        numbersInTheirRanges();
        completeWorks();
        incompleteWorksStay();
        playsASackAtItsEnds();
        playsGearsAtTheirEnds();
        playsHoursAtTheirEnds();
        playsOneToTwentyParts();
        playsUpToTheFirstSackThatCannotCome();
        partsMakeRoomForParts();
        playIsUndoneAsOneCall();
        playClearsTheBuffer();
        edge.end();
    }

    private static int played(TideMills mills, String text) {
        Edge.type(mills, text);
        return mills.play();
    }

    private static void appendWhichCodes() {
        edge.range("append, code: 33 to 126", Edge.ARGUMENT, 33, 126, TideMills::append);
        edge.refuses("a code that is one of them modulo 256", Edge.ARGUMENT, Edge.NEW, m -> m.append(256 + 's'));
        edge.answers("the new length, from 1", 1, Edge.NEW, m -> m.append(33));
        edge.answers("the new length", 2, m -> m.append(33), m -> m.append(126));
    }

    private static void appendToTheLastPlace() {
        edge.answers("the 59th character", 59, Edge.typed("x".repeat(58)), m -> m.append('+'));
        edge.answers("the 60th character", 60, Edge.typed("x".repeat(59)), m -> m.append('+'));
        edge.refuses("a 61st character", Edge.STATE, Edge.typed("x".repeat(60)), m -> m.append('+'));
        edge.answers("the first behind a full buffer that is cleared", 1, m -> {
            Edge.type(m, "x".repeat(60));
            m.clearBuffer();
        }, m -> m.append('+'));
        edge.answers("the first behind a full buffer that is played", 1, m -> played(m, TWENTY_PARTS + "1"),
                m -> m.append('+'));
    }

    private static void appendExceptionsInTheirOrder() {
        edge.refuses("the code is ahead of a full buffer", Edge.ARGUMENT, Edge.typed("x".repeat(60)),
                m -> m.append(32));
        edge.refuses("the code is ahead of a full buffer", Edge.ARGUMENT, Edge.typed("x".repeat(60)),
                m -> m.append(127));
    }

    private static void clearEmptyAndFull() {
        edge.answers("an empty buffer", 0, Edge.NEW, TideMills::clearBuffer);
        edge.answers("one character", 1, Edge.typed("x"), TideMills::clearBuffer);
        edge.answers("a full buffer", 60, Edge.typed("x".repeat(60)), TideMills::clearBuffer);
        edge.answers("a cleared buffer", 0, m -> {
            Edge.type(m, "x".repeat(60));
            m.clearBuffer();
        }, TideMills::clearBuffer);
        edge.answers("what was cleared does not come back", 1, m -> {
            Edge.type(m, "s0,1,1");
            m.clearBuffer();
            Edge.type(m, "+");
        }, TideMills::firstError);
    }

    private static int errorOf(String text) {
        return Edge.made(Edge.typed(text)).firstError();
    }

    private static void noErrorInAnEmptyBuffer() {
        edge.due("the length of an empty buffer", 0, errorOf(""));
    }

    private static void errorAtTheFirstAndTheLastCharacter() {
        edge.due("the only character", 0, errorOf("x"));
        edge.due("the first of two", 0, errorOf("x1"));
        edge.due("the last of two", 1, errorOf("+x"));
        edge.due("the first of a full buffer", 0, errorOf("x" + TWENTY_PARTS));
        edge.due("the last of a full buffer", 59, errorOf(TWENTY_PARTS + "x"));
        edge.due("none in a full buffer", 60, errorOf(TWENTY_PARTS + "0"));
        edge.due("none in one character", 1, errorOf("+"));
    }

    private static void onlyTheFirstErrorIsTold() {
        edge.due("the first of two errors", 2, errorOf("+1x;x"));
        edge.due("what follows would be right without it", 2, errorOf("+1x2"));
        edge.due("a right part behind a wrong one", 1, errorOf("+;+1"));
    }

    private static void mayFollow(String text, String codes) {
        for (char code = 33; code <= 126; code++) {
            boolean follows = codes.indexOf(code) >= 0;
            int length = text.length();
            edge.due("the character " + code + " behind " + text, follows ? length + 1 : length, errorOf(text + code));
        }
    }

    /** Every character that can be appended, behind each kind of beginning. */
    private static void whatMayFollow() {
        String[][] followers = {
            {"", "sg+"}, {"+1;", "sg+"}, {"s0,1,1;", "sg+"}, {"g0,8,8;", "sg+"},
            {"s", "01234"}, {"s0", ","}, {"s4", ","}, {"s0,", "123456789"}, {"s0,1", "0123456789,"},
            {"s0,99", "0123456789,"}, {"s0,100", ","}, {"s0,999", ","}, {"s0,1,", "123456789"},
            {"s0,1,1", "0123456789;"}, {"s0,1,99", "0123456789;"}, {"s0,1,999", "0123456789;"},
            {"s0,1,1000", ";"}, {"s0,1,9999", ";"},
            {"g", "01234"}, {"g0", ","}, {"g4", ","}, {"g0,", "12345689"}, {"g0,1", "0123456789"},
            {"g0,5", "0123456789"}, {"g0,6", "0"}, {"g0,8", ","}, {"g0,9", ","}, {"g0,10", ","}, {"g0,59", ","},
            {"g0,60", ","}, {"g0,8,", "12345689"}, {"g0,8,1", "0123456789"}, {"g0,8,5", "0123456789"},
            {"g0,8,6", "0"}, {"g0,8,8", ";"}, {"g0,8,9", ";"}, {"g0,8,10", ";"}, {"g0,8,59", ";"}, {"g0,8,60", ";"},
            {"+", "123456789"}, {"+1", "0123456789;"}, {"+3", "0123456789;"}, {"+4", "012345678;"}, {"+5", ";"},
            {"+9", ";"}, {"+10", ";"}, {"+39", ";"}, {"+48", ";"},
        };
        for (String[] row : followers) {
            mayFollow(row[0], row[1]);
            mayFollow("+48;" + row[0], row[1]);
        }
    }

    private static String sixtyThatEndIn(String end) {
        int before = 60 - end.length();
        int longer = before % 3;
        return "+10;".repeat(longer) + "+1;".repeat((before - 4 * longer) / 3) + end;
    }

    private static void textsOfAnyLengthMayFollow() {
        String[] ends = {"s", "s0", "s0,", "s0,9", "s0,9,", "s0,9,9", "g", "g4", "g4,", "g4,6", "g4,8,", "g4,8,1", "+",
            "+4", ";"};
        for (String end : ends) {
            String text = sixtyThatEndIn(end.equals(";") ? "+1;" : end);
            edge.due("no error where a full buffer goes on: " + text, 60, errorOf(text));
        }
        edge.refuses("but it is not complete", Edge.ARGUMENT, Edge.typed(sixtyThatEndIn("s0,9,")), TideMills::play);
    }

    private static void numbersWithoutALeadingZero() {
        edge.due("a mill 0", 2, errorOf("s0"));
        edge.due("a mill 00", 2, errorOf("s00"));
        edge.due("a mill 01", 2, errorOf("s01"));
        edge.due("a hardness 01", 3, errorOf("s0,01"));
        edge.due("a due 01", 5, errorOf("s0,1,01"));
        edge.due("a gear's mill 00", 2, errorOf("g00"));
        edge.due("a wheel 08", 3, errorOf("g0,08"));
        edge.due("a stone 08", 5, errorOf("g0,8,08"));
        edge.due("hours 01", 1, errorOf("+01"));
    }

    /** Its least and most number are right; one less and one more have an error at this place of theirs. */
    private static void numbers(String before, String behind, int least, int errorBelow, int most, int errorAbove) {
        for (int value : new int[] {least, most}) {
            String text = before + value + behind;
            edge.due("the number " + value + " in " + text, text.length(), errorOf(text));
            edge.due("it is played", 1, played(new TideMills(), text));
        }
        String below = before + (least - 1) + behind;
        edge.due("below the least: " + below, before.length() + errorBelow, errorOf(below));
        edge.refuses("it is not played: " + below, Edge.ARGUMENT, Edge.typed(below), TideMills::play);
        String above = before + (most + 1) + behind;
        edge.due("above the most: " + above, before.length() + errorAbove, errorOf(above));
        edge.refuses("it is not played: " + above, Edge.ARGUMENT, Edge.typed(above), TideMills::play);
    }

    private static void numbersInTheirRanges() {
        numbers("s", ",1,1", 0, 0, 4, 0);
        numbers("s0,", ",1", 1, 0, 999, 3);
        numbers("s0,1,", "", 1, 0, 9999, 4);
        numbers("g", ",8,8", 0, 0, 4, 0);
        numbers("g0,", ",8", 8, 0, 60, 1);
        numbers("g0,8,", "", 8, 0, 60, 1);
        numbers("+", "", 1, 0, 48, 1);
    }

    private static void completeWorks() {
        String[] texts = {"s0,1,1", "s4,999,9999", "g0,8,8", "g4,60,60", "+1", "+48", "+1;+1", "s0,1,1;g0,8,8;+1",
            "+10", "g0,10,59", TWENTY_PARTS, TWENTY_PARTS + "0"};
        for (String text : texts) {
            int parts = text.length() - text.replace(";", "").length() + 1;
            edge.answers("complete: " + text, parts, Edge.NEW, m -> played(m, text));
        }
    }

    private static void incompleteWorksStay() {
        String[] texts = {"", "s", "s0", "s0,", "s0,1", "s0,1,", "g", "g0", "g0,", "g0,1", "g0,8", "g0,8,", "g0,8,1",
            "g0,8,5", "g0,8,6", "+", "+1;", "+1;s0,1,", "s0,1,1;", "g0,8,8;", "+1;;", ";", ";+1", "+1;;+1", "+1x",
            "x", TWENTY_PARTS + ";", TWENTY_PARTS + "x"};
        for (String text : texts) {
            edge.refuses("not complete: " + text, Edge.ARGUMENT, Edge.typed(text), TideMills::play);
        }
        TideMills mills = Edge.made(Edge.typed("+"));
        edge.dueText("a play that is refused", "refused", refusedOrPlayed(mills));
        mills.append('9');
        edge.dueText("and goes on", "1", refusedOrPlayed(mills));
        edge.due("from where it stood", 9, mills.count(0));
    }

    private static String refusedOrPlayed(TideMills mills) {
        try {
            return "" + mills.play();
        } catch (IllegalArgumentException e) {
            return "refused";
        }
    }

    private static void playsASackAtItsEnds() {
        TideMills least = new TideMills();
        played(least, "s0,1,1");
        TideMills most = new TideMills();
        played(most, "s4,999,9999");
        int[][] sacks = {{0, 1, 1, 1, 0}, {4, 999, 999, 9999, 0}};
        for (int what = 0; what <= 4; what++) {
            edge.due("the least numbers: " + what, sacks[0][what], least.sackOf(0, what));
            edge.due("the greatest numbers: " + what, sacks[1][what], most.sackOf(0, what));
        }
        edge.answers("the sixth sack", 1, m -> {
            FULL_MILL.make(m);
            m.back(0);
        }, m -> played(m, "s2,1,1"));
    }

    private static void playsGearsAtTheirEnds() {
        TideMills mills = new TideMills();
        edge.due("two gears", 2, played(mills, "g0,8,60;g4,60,8"));
        edge.due("the least wheel", 8, mills.mill(0, 5));
        edge.due("the greatest stone", 60, mills.mill(0, 6));
        edge.due("the greatest wheel", 60, mills.mill(4, 5));
        edge.due("the least stone", 8, mills.mill(4, 6));
        edge.due("of no other mill", 40, mills.mill(1, 5));
    }

    private static void playsHoursAtTheirEnds() {
        TideMills mills = new TideMills();
        played(mills, "+1");
        edge.due("one hour", 1, mills.count(0));
        played(mills, "+48");
        edge.due("48 hours", 49, mills.count(0));
    }

    private static void playsOneToTwentyParts() {
        edge.answers("one part", 1, Edge.NEW, m -> played(m, "+1"));
        edge.answers("two parts", 2, Edge.NEW, m -> played(m, "+1;+1"));
        edge.answers("as many as there is room for", 20, Edge.NEW, m -> played(m, TWENTY_PARTS + "1"));
        TideMills mills = new TideMills();
        played(mills, TWENTY_PARTS + "1");
        edge.due("each is done", 30, mills.count(0));
    }

    private static void playsUpToTheFirstSackThatCannotCome() {
        TideMills first = Edge.made(FULL_MILL);
        edge.due("the first part cannot be done", 0, played(first, "s2,1,1;+1;s0,1,1;g0,8,8"));
        edge.due("no hours behind it", 0, first.count(0));
        edge.due("no sacks behind it", 6, first.count(6));
        edge.due("no gear behind it", 40, first.mill(0, 5));
        TideMills second = Edge.made(FULL_MILL);
        edge.due("the second part cannot be done", 1, played(second, "g0,8,8;s2,1,1;g0,9,9"));
        edge.due("but the one ahead of it", 8, second.mill(0, 5));
        TideMills last = Edge.made(FULL_MILL);
        edge.due("the last part cannot be done", 2, played(last, "s1,1,1;g0,8,8;s2,1,1"));
        edge.due("the sack of another mill came", 7, last.count(6));
        edge.due("the seventh of a text", 6, played(new TideMills(), "s2,1,1;".repeat(6) + "s2,1,1"));
    }

    private static void partsMakeRoomForParts() {
        edge.answers("hours that grind a sack", 2, FULL_MILL, m -> played(m, "+3;s2,1,1"));
        edge.answers("hours that grind none yet", 1, FULL_MILL, m -> played(m, "+2;s2,1,1"));
        edge.answers("a gear that grinds one hour's more", 3, FULL_MILL, m -> played(m, "g2,60,8;+3;s2,1,1"));
    }

    private static void playIsUndoneAsOneCall() {
        TideMills mills = new TideMills();
        String before = View.of(mills);
        played(mills, "s0,1,1;g0,8,8;+48;+48");
        edge.due("saved once", 1, mills.count(14));
        edge.due("undone once", 0, mills.undo());
        edge.dueText("all as before", before, View.of(mills));
        edge.due("six sacks", 6, played(mills, "s2,1,1;s2,1,1;s2,1,1;s2,1,1;s2,1,1;s2,1,1"));
        String full = View.of(mills);
        edge.due("nothing is done", 0, played(mills, "s2,1,1"));
        edge.due("saved also then", 2, mills.count(14));
        edge.due("undone also then", 1, mills.undo());
        edge.dueText("to what it was", full, View.of(mills));
    }

    private static void playClearsTheBuffer() {
        edge.answers("a play of all", 0, m -> played(m, "+1;+1"), TideMills::clearBuffer);
        edge.answers("a play of nothing", 0, m -> {
            FULL_MILL.make(m);
            played(m, "s2,1,1;+1");
        }, TideMills::clearBuffer);
        edge.refuses("then it is empty", Edge.ARGUMENT, m -> played(m, "+1"), TideMills::play);
        edge.answers("an undo does not bring it back", 0, m -> {
            played(m, "+1");
            m.undo();
        }, TideMills::clearBuffer);
    }
}
