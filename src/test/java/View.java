/** All that looks tell of an object, as a text, to compare two of them. */
final class View {
    private final TideMills mills;
    private final StringBuilder text = new StringBuilder();

    private View(TideMills mills) {
        this.mills = mills;
    }

    /** What a saved state holds, and what follows from it. */
    static String ofState(TideMills mills) {
        View view = new View(mills);
        view.looks();
        return view.text.toString();
    }

    /** Also how many states are saved, and the buffer, which shows in the digest alone. */
    static String of(TideMills mills) {
        return ofState(mills) + mills.count(14) + ' ' + mills.digest() + ' ' + mills.firstError();
    }

    /** Also the saved states and the snapshot, which are looked at by going back to them. */
    static String withAllStates(TideMills mills) {
        View view = new View(mills);
        view.text.append(of(mills)).append('\n');
        for (int left = mills.count(14); left > 0; left--) {
            mills.undo();
            view.looks();
        }
        view.snapshot();
        return view.text.toString();
    }

    private void number(long number) {
        text.append(number).append(' ');
    }

    private void looks() {
        for (int what = 0; what <= 13; what++) {
            number(mills.count(what));
        }
        for (int mill = 0; mill < 5; mill++) {
            mill(mill);
        }
        for (int sack = 0; sack < mills.count(6); sack++) {
            for (int what = 0; what <= 4; what++) {
                number(mills.sackOf(sack, what));
            }
        }
        text.append(mills.inTime()).append('\n');
    }

    private void mill(int mill) {
        for (int what = 0; what <= 10; what++) {
            number(mills.mill(mill, what));
        }
        number(mills.whyNot(mill));
        number(mills.next(mill));
        for (int place = 0; place <= 6; place++) {
            number(mills.sackAt(mill, place));
        }
        text.append('\n');
    }

    private void snapshot() {
        try {
            mills.restore();
            looks();
        } catch (IllegalStateException e) {
            text.append("no snapshot");
        }
    }
}
