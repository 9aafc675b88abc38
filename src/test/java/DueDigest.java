/** The digest as the document tells it, by the answers of the other calls. */
final class DueDigest {
    private long hash = 3659;

    private DueDigest() {
    }

    /** The text is that of the buffer, which no call tells. */
    static long of(TideMills mills, String text) {
        DueDigest digest = new DueDigest();
        for (int what = 0; what <= 14; what++) {
            digest.add(mills.count(what));
        }
        for (int mill = 0; mill < 5; mill++) {
            digest.addMill(mills, mill);
        }
        for (int hour = 0; hour <= 11; hour++) {
            digest.add(mills.tide(hour));
        }
        for (int rank = 0; rank <= 4; rank++) {
            digest.add(mills.next(rank));
        }
        digest.add(mills.chosen());
        for (int what = 0; what <= 3; what++) {
            digest.add(mills.ifPassed(12, what));
        }
        digest.add(Double.doubleToLongBits(mills.inTime()));
        digest.add(text.length());
        for (int at = 0; at < text.length(); at++) {
            digest.add(text.charAt(at));
        }
        return digest.hash;
    }

    private void add(long value) {
        hash = 31 * hash + value;
    }

    private void addMill(TideMills mills, int mill) {
        for (int what = 0; what <= 10; what++) {
            add(mills.mill(mill, what));
        }
        add(mills.whyNot(mill));
        for (int place = 0; place < mills.mill(mill, 7); place++) {
            add(mills.sackAt(mill, place));
            add(mills.sackOf(mills.sackAt(mill, place), 2));
        }
        add(mills.mill(mill, 7) == 0 ? TideMills.NONE : mills.groundIn(mills.sackAt(mill, 0)));
        add(mills.bestStone(mill));
    }
}
