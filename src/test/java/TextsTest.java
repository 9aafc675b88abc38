/** Promises 10 to 13: append, clearBuffer, firstError, play. */
public final class TextsTest {
    private static final Check check = new Check("TextsTest");

    public static void main(String[] args) {
        append();
        errors();
        incomplete();
        ranges();
        play();
        playStopsAtASackThatCannotCome();
        check.end();
    }

    private static TideMills with(String text) {
        TideMills mills = new TideMills();
        type(mills, text);
        return mills;
    }

    private static void type(TideMills mills, String text) {
        for (int i = 0; i < text.length(); i++) {
            mills.append(text.charAt(i));
        }
    }

    private static void append() {
        TideMills mills = new TideMills();
        check.due("append(33)", 1, mills.append(33));
        check.due("append(126)", 2, mills.append(126));
        check.dueThrow("append(32)", mills, IllegalArgumentException.class, () -> mills.append(32));
        check.dueThrow("append(127)", mills, IllegalArgumentException.class, () -> mills.append(127));
        check.due("saved states", 0, mills.count(14));
        check.due("clearBuffer", 2, mills.clearBuffer());
        check.due("clearBuffer again", 0, mills.clearBuffer());
        for (int length = 1; length <= 60; length++) {
            check.due("append", length, mills.append('s'));
        }
        check.dueThrow("append to a full buffer", mills, IllegalStateException.class, () -> mills.append('s'));
        check.dueThrow("append(32) to a full buffer", mills, IllegalArgumentException.class,
                () -> mills.append(32));
        mills.pass(1);
        mills.undo();
        check.due("the buffer is no part of a state", 60, mills.clearBuffer());
    }

    private static void error(String text, int at) {
        TideMills mills = with(text);
        check.due("firstError of " + text, at, mills.firstError());
        check.dueThrow("play of " + text, mills, IllegalArgumentException.class, mills::play);
        check.due("length of " + text, text.length(), mills.clearBuffer());
    }

    private static void errors() {
        error("x", 0);
        error(",", 0);
        error(";+1", 0);
        error("1", 0);
        error("s5", 1);
        error("s,", 1);
        error("s00", 2);
        error("s0;", 2);
        error("s0,0", 3);
        error("s0,,", 3);
        error("s0,1000", 6);
        error("s0,1;", 4);
        error("s0,1,0", 5);
        error("s0,1,10000", 9);
        error("s0,1,1,", 6);
        error("s0,1,1+", 6);
        error("s-1,1,1", 1);
        error("g0,7", 3);
        error("g0,0", 3);
        error("g0,1,", 4);
        error("g0,6,", 4);
        error("g0,61", 4);
        error("g0,80", 4);
        error("g0,8,8,", 6);
        error("g0,8,7", 5);
        error("g0,8,99", 6);
        error("g0,8,1;", 6);
        error("+0", 1);
        error("+;", 1);
        error("+49", 2);
        error("+50", 2);
        error("+100", 3);
        error("+1,", 2);
        error("+1;;", 3);
        error("+1;x+49", 3);
        error("++1", 1);
        error("S0,1,1", 0);
    }

    private static void incomplete() {
        String[] texts = {"", "s", "s0", "s0,", "s0,1", "s0,1,", "g", "g4,", "g4,1", "g4,60,", "g4,60,6", "+", "+1;",
            "+1;s", "s0,1,1;"};
        for (String text : texts) {
            error(text, text.length());
        }
    }

    private static void ranges() {
        int[][] ranges = {{0, 4}, {1, 999}, {1, 9999}, {8, 60}, {8, 60}, {1, 48}};
        for (int value = 0; value <= 10001; value++) {
            String[] texts = {"s" + value + ",1,1", "s1," + value + ",1", "s1,1," + value, "g1," + value + ",9",
                "g1,9," + value, "+" + value};
            for (int form = 0; form < texts.length; form++) {
                boolean whole = value >= ranges[form][0] && value <= ranges[form][1];
                boolean found = with(texts[form]).firstError() == texts[form].length();
                boolean grows = form == 4 && value < 7 && value > 0;
                check.due("firstError tells of " + texts[form], whole || grows ? 1 : 0, found ? 1 : 0);
            }
        }
    }

    private static void play() {
        TideMills mills = with("g4,9,11;s4,7,9999;s0,120,2;+3");
        check.due("firstError", 29, mills.firstError());
        check.due("play", 4, mills.play());
        check.due("hour", 3, mills.count(0));
        check.due("wheel", 9, mills.mill(4, 5));
        check.due("stone", 11, mills.mill(4, 6));
        check.due("hardness", 7, mills.sackOf(0, 1));
        check.due("rest", 7, mills.sackOf(0, 2));
        check.due("ground", 1, mills.count(8));
        check.due("late", 1, mills.count(9));
        check.due("sack at mill 4", 0, mills.sackAt(4, 0));
        check.due("when it is due", 9999, mills.sackOf(0, 3));
        check.due("buffer", 0, mills.clearBuffer());
        check.due("saved states", 1, mills.count(14));
        check.due("undo as one call", 0, mills.undo());
        check.due("hour behind undo", 0, mills.count(0));
        check.due("buffer behind undo", 0, mills.clearBuffer());
        check.due("wheel behind undo", 40, mills.mill(4, 5));
        type(mills, "+48;+48;+1");
        check.due("play of hours", 3, mills.play());
        check.due("hour", 97, mills.count(0));
    }

    private static void playStopsAtASackThatCannotCome() {
        TideMills mills = with("s1,9,1;s1,9,1;s1,9,1;s1,9,1;s1,9,1;s1,9,1;s1,9,1;+1;s0,1,1");
        check.due("play", 6, mills.play());
        check.due("hour", 0, mills.count(0));
        check.due("buffer", 0, mills.clearBuffer());
        check.due("sacks that came", 6, mills.count(6));
        type(mills, "s1,9,1");
        check.due("play of nothing", 0, mills.play());
        check.due("saved states", 2, mills.count(14));
        check.due("buffer", 0, mills.clearBuffer());
        type(mills, "+3;s1,9,1");
        check.due("hours make room", 2, mills.play());
        check.due("sacks that came", 7, mills.count(6));
        check.due("undo", 2, mills.undo());
        check.due("undo", 1, mills.undo());
        check.due("sacks that came", 6, mills.count(6));
        check.due("undo", 0, mills.undo());
        check.due("sacks that came", 0, mills.count(6));
    }
}
