/** Mill wheels geared to turn while other mills rest. */
public final class TideMills {

    /** There is nothing to return. */
    public static final int NONE = -1;

    private static final int MILLS = 5;
    private static final int SACKS_AT_MILL = 6;
    private static final int SACKS_IN_ALL = 999;
    private static final int SAVED_STATES = 6;
    private static final int BUFFER_LENGTH = 60;
    private static final int TIDE_HOURS = 12;

    private static final int MOST_HARDNESS = 999;
    private static final int MOST_DUE = 9999;
    private static final int LEAST_TEETH = 8;
    private static final int MOST_TEETH = 60;
    private static final int MOST_HOURS = 48;
    private static final int FORESEEN_HOURS = 200;
    private static final int DAY_HOURS = 24;

    private final Creek now = new Creek();
    private final Creek trial = new Creek();
    private final Creek snapshot = new Creek();
    private boolean snapshotTaken = false;
    private final History history = new History();
    private final int[] buffer = new int[BUFFER_LENGTH];
    private int bufferLength = 0;
    private final PartReader reader = new PartReader();

    public TideMills() {
    }

    // ---- mills

    public int pond(int mill, int capacity, int sill)
            throws IndexOutOfBoundsException, IllegalArgumentException, IllegalStateException {
        Mill its = millOrThrow(mill);
        requireRange(capacity, 50, 500);
        requireRange(sill, 0, 60);
        requireState(its.water <= capacity);
        history.save(now);
        int previous = its.capacity;
        its.capacity = capacity;
        its.sill = sill;
        return previous;
    }

    public int gate(int mill, int from, int to) throws IndexOutOfBoundsException, IllegalArgumentException {
        Mill its = millOrThrow(mill);
        requireRange(from, 0, TIDE_HOURS - 1);
        requireRange(to, from, TIDE_HOURS - 1);
        history.save(now);
        int previous = its.gateTo - its.gateFrom + 1;
        its.gateFrom = from;
        its.gateTo = to;
        return previous;
    }

    public int gear(int mill, int wheel, int stone) throws IndexOutOfBoundsException, IllegalArgumentException {
        Mill its = millOrThrow(mill);
        requireRange(wheel, LEAST_TEETH, MOST_TEETH);
        requireRange(stone, LEAST_TEETH, MOST_TEETH);
        history.save(now);
        its.wheel = wheel;
        its.stone = stone;
        return its.turnsOfStone(100);
    }

    public int set(int setting, int value) throws IndexOutOfBoundsException, IllegalArgumentException {
        if (setting < 0 || setting > 2) {
            throw new IndexOutOfBoundsException("no such setting");
        }
        requireRange(value, leastOfSetting(setting), mostOfSetting(setting));
        history.save(now);
        int previous = now.settingAt(setting);
        now.changeSetting(setting, value);
        return previous;
    }

    public int pass(int hours) throws IllegalArgumentException {
        requireRange(hours, 1, MOST_HOURS);
        history.save(now);
        int before = now.sacksGround;
        now.passHours(hours);
        return now.sacksGround - before;
    }

    // ---- sacks

    public int sack(int mill, int hardness, int due)
            throws IndexOutOfBoundsException, IllegalArgumentException, IllegalStateException {
        Mill its = millOrThrow(mill);
        requireRange(hardness, 1, MOST_HARDNESS);
        requireRange(due, 1, MOST_DUE);
        requireState(now.hasRoomForSack(its));
        history.save(now);
        return now.bringSack(its, hardness, due);
    }

    public int carry(int sack, int mill) throws IndexOutOfBoundsException, IllegalStateException {
        Mill there = millOrThrow(mill);
        Mill here = millOfSackOrThrow(sack);
        requireState(here != there && there.sackCount < SACKS_AT_MILL);
        history.save(now);
        int place = here.placeOf(sack);
        int itsPlace = there.putSack(sack, here.hardnessAt(place), here.restAt(place), here.dueAt(place));
        here.dropSack(place);
        return itsPlace;
    }

    public int back(int sack) throws IllegalStateException {
        Mill its = millOfSackOrThrow(sack);
        history.save(now);
        int place = its.placeOf(sack);
        int rest = its.restAt(place);
        its.dropSack(place);
        now.sacksTakenBack++;
        return rest;
    }

    // ---- texts

    public int append(int code) throws IllegalArgumentException, IllegalStateException {
        requireRange(code, 33, 126);
        if (bufferLength < 0 || bufferLength >= buffer.length) {
            throw new IllegalStateException("the buffer is full");
        }
        buffer[bufferLength] = code;
        bufferLength++;
        return bufferLength;
    }

    public int clearBuffer() {
        int previous = bufferLength;
        bufferLength = 0;
        return previous;
    }

    public int firstError() {
        return readToError();
    }

    public int play() throws IllegalArgumentException {
        if (readToError() < bufferLength || !reader.partIsWhole()) {
            throw new IllegalArgumentException("no complete works as a text");
        }
        history.save(now);
        int done = doParts();
        bufferLength = 0;
        return done;
    }

    // ---- undo, the snapshot

    public int undo() throws IllegalStateException {
        requireState(history.savedStates > 0);
        history.restoreLatest(now);
        return history.savedStates;
    }

    public int keep() {
        snapshot.copyFrom(now);
        snapshotTaken = true;
        return now.hour;
    }

    public int restore() throws IllegalStateException {
        requireState(snapshotTaken);
        history.save(now);
        now.copyFrom(snapshot);
        return now.hour;
    }

    // ---- looks; nothing is changed

    public int mill(int mill, int what) throws IndexOutOfBoundsException, IllegalArgumentException {
        Mill its = millOrThrow(mill);
        requireRange(what, 0, 10);
        return numberOfMill(its, what);
    }

    public int sackAt(int mill, int place) throws IndexOutOfBoundsException, IllegalArgumentException {
        Mill its = millOrThrow(mill);
        requireNotBelowZero(place);
        return its.numberAt(place);
    }

    public int sackOf(int sack, int what) throws IllegalArgumentException {
        requireRange(what, 0, 4);
        Mill its = now.millOfSack(sack);
        return its == null ? NONE : numberOfSack(its, its.placeOf(sack), what);
    }

    public int whyNot(int mill) throws IndexOutOfBoundsException {
        return now.reasonToRest(millOrThrow(mill));
    }

    public int tide(int hour) throws IllegalArgumentException {
        requireNotBelowZero(hour);
        return now.tideIn(hour);
    }

    public int count(int what) throws IllegalArgumentException {
        requireRange(what, 0, 14);
        return numberOfAll(what);
    }

    // ---- what would be; nothing is changed

    public int next(int rank) throws IllegalArgumentException {
        requireNotBelowZero(rank);
        return millOfRank(rank);
    }

    public int chosen() {
        return numberOrNone(now.millAheadOfAll());
    }

    public int ifPassed(int hours, int what) throws IllegalArgumentException {
        requireRange(hours, 1, MOST_HOURS);
        requireRange(what, 0, 3);
        return foreseen(hours, what);
    }

    public int groundIn(int sack) {
        return hoursToGround(sack);
    }

    public int bestStone(int mill) throws IndexOutOfBoundsException {
        return stoneThatGrindsMost(millOrThrow(mill));
    }

    public double inTime() {
        return shareInTime();
    }

    public long digest() {
        long hash = 3659;
        for (int what = 0; what <= 14; what++) {
            hash = 31 * hash + numberOfAll(what);
        }
        for (Mill mill = now.firstMill; mill != null; mill = mill.neighbour) {
            hash = withMill(hash, mill);
        }
        for (int hour = 0; hour < TIDE_HOURS; hour++) {
            hash = 31 * hash + now.tideIn(hour);
        }
        for (int rank = 0; rank < MILLS; rank++) {
            hash = 31 * hash + millOfRank(rank);
        }
        hash = 31 * hash + numberOrNone(now.millAheadOfAll());
        for (int what = 0; what <= 3; what++) {
            hash = 31 * hash + foreseen(12, what);
        }
        hash = 31 * hash + bitsOfShare(shareInTime());
        hash = 31 * hash + bufferLength;
        for (int at = 0; at < bufferLength && at < buffer.length; at++) {
            hash = 31 * hash + buffer[at];
        }
        return hash;
    }

    private Mill millOrThrow(int mill) {
        Mill its = now.millAt(mill);
        if (its == null) {
            throw new IndexOutOfBoundsException("no such mill");
        }
        return its;
    }

    private Mill millOfSackOrThrow(int sack) {
        Mill its = now.millOfSack(sack);
        if (its == null) {
            throw new IllegalStateException("no mill has such a sack");
        }
        return its;
    }

    private static void requireRange(int value, int least, int most) {
        if (value < least || value > most) {
            throw new IllegalArgumentException("out of range");
        }
    }

    private static void requireNotBelowZero(int value) {
        if (value < 0) {
            throw new IllegalArgumentException("below 0");
        }
    }

    private static void requireState(boolean holds) {
        if (!holds) {
            throw new IllegalStateException("not in this state");
        }
    }

    private static int leastOfSetting(int setting) {
        switch (setting) {
            case 0:
                return 1;
            case 1:
                return 0;
            default:
                return 5;
        }
    }

    private static int mostOfSetting(int setting) {
        return setting == 0 ? 15 : 100;
    }

    private static int numberOrNone(Mill mill) {
        return mill == null ? NONE : mill.number;
    }

    /** Leaves the reader behind the last character that is no error. */
    private int readToError() {
        reader.begin();
        int at = 0;
        while (at < bufferLength && at < buffer.length && reader.take(buffer[at])) {
            at++;
        }
        return at;
    }

    private int doParts() {
        int done = 0;
        reader.begin();
        for (int at = 0; at <= bufferLength; at++) {
            if (at < bufferLength && at < buffer.length && buffer[at] != PartReader.SEPARATOR) {
                reader.take(buffer[at]);
            } else {
                if (!doPart()) {
                    return done;
                }
                done++;
                reader.begin();
            }
        }
        return done;
    }

    private boolean doPart() {
        if (reader.kind == PartReader.HOURS) {
            now.passHours(reader.numberAt(0));
            return true;
        }
        Mill its = now.millAt(reader.numberAt(0));
        if (its == null) {
            return false;
        }
        if (reader.kind == PartReader.GEAR) {
            its.wheel = reader.numberAt(1);
            its.stone = reader.numberAt(2);
            return true;
        }
        return now.bringSack(its, reader.numberAt(1), reader.numberAt(2)) != NONE;
    }

    private int numberOfMill(Mill its, int what) {
        switch (what) {
            case 0:
                return its.capacity;
            case 1:
                return its.water;
            case 2:
                return its.sill;
            case 3:
                return its.gateFrom;
            case 4:
                return its.gateTo;
            case 5:
                return its.wheel;
            case 6:
                return its.stone;
            case 7:
                return its.sackCount;
            case 8:
                return its.headAt(now.tideIn(now.hour)) + 1000;
            case 9:
                return its.hoursTurned;
            default:
                return its.sacksGround;
        }
    }

    private static int numberOfSack(Mill its, int place, int what) {
        switch (what) {
            case 0:
                return its.number;
            case 1:
                return its.hardnessAt(place);
            case 2:
                return its.restAt(place);
            case 3:
                return its.dueAt(place);
            default:
                return place;
        }
    }

    private int numberOfAll(int what) {
        switch (what) {
            case 0:
                return now.hour;
            case 1:
                return now.turnedMill;
            case 2:
                return now.idleHours;
            case 3:
                return now.waterIn;
            case 4:
                return now.waterUsed;
            case 5:
                return now.waterInPonds();
            case 6:
                return now.sacksCame;
            case 7:
                return now.sacksAtMills();
            case 8:
                return now.sacksGround;
            case 9:
                return now.sacksLate;
            case 10:
                return now.sacksTakenBack;
            case 14:
                return history.savedStates;
            default:
                return now.settingAt(what - 11);
        }
    }

    private int millOfRank(int rank) {
        if (rank >= MILLS) {
            return NONE;
        }
        Mill mill = now.millBehind(null);
        for (int place = 0; place < rank && mill != null; place++) {
            mill = now.millBehind(mill);
        }
        return numberOrNone(mill);
    }

    private int foreseen(int hours, int what) {
        trial.copyFrom(now);
        trial.passHours(hours);
        switch (what) {
            case 0:
                return trial.sacksGround - now.sacksGround;
            case 1:
                return trial.sacksLate - now.sacksLate;
            case 2:
                return trial.idleHours - now.idleHours;
            default:
                return trial.waterUsed - now.waterUsed;
        }
    }

    private int hoursToGround(int sack) {
        trial.copyFrom(now);
        Mill its = trial.millOfSack(sack);
        if (its == null) {
            return NONE;
        }
        for (int hours = 1; hours <= FORESEEN_HOURS; hours++) {
            trial.passHours(1);
            if (its.placeOf(sack) == NONE) {
                return hours;
            }
        }
        return NONE;
    }

    private int stoneThatGrindsMost(Mill mill) {
        // Such a mill never turns, so every stone would do the same.
        if (mill.sackCount == 0) {
            return MOST_TEETH;
        }
        int best = MOST_TEETH;
        int most = NONE;
        int rests = now.restsOfAll();
        for (int stone = MOST_TEETH; stone >= LEAST_TEETH; stone -= 4) {
            trial.copyFrom(now);
            trial.changeStone(mill.number, stone);
            trial.passHours(DAY_HOURS);
            int less = rests - trial.restsOfAll();
            if (less > most) {
                most = less;
                best = stone;
            }
        }
        return best;
    }

    private double shareInTime() {
        int ground = now.sacksGround;
        if (ground <= 0) {
            return 1.0;
        }
        return (double) (ground - now.sacksLate) / (double) ground;
    }

    private long withMill(long before, Mill mill) {
        long hash = before;
        for (int what = 0; what <= 10; what++) {
            hash = 31 * hash + numberOfMill(mill, what);
        }
        hash = 31 * hash + now.reasonToRest(mill);
        for (int place = 0; place < mill.sackCount; place++) {
            hash = 31 * hash + mill.numberAt(place);
            hash = 31 * hash + mill.restAt(place);
        }
        int first = mill.numberAt(0);
        hash = 31 * hash + (first == NONE ? NONE : hoursToGround(first));
        return 31 * hash + stoneThatGrindsMost(mill);
    }

    /** Made by hand, as the library is not allowed here; only for a share from 0 to 1. */
    private static long bitsOfShare(double share) {
        if (share <= 0.0) {
            return 0L;
        }
        double mantissa = share;
        long exponent = 1023L;
        for (int doubled = 0; doubled < 1022 && mantissa < 1.0; doubled++) {
            mantissa = mantissa * 2.0;
            exponent--;
        }
        long fraction = (long) ((mantissa - 1.0) * 4503599627370496.0);
        return (exponent << 52) + fraction;
    }

    /** All that undo and the snapshot bring back. */
    private static final class Creek {
        final Mill firstMill;
        int tideStep = 10;
        int leastHead = 20;
        int waterForHour = 20;
        int hour = 0;
        int turnedMill = NONE;
        int idleHours = 0;
        int waterIn = 0;
        int waterUsed = 0;
        int sacksCame = 0;
        int sacksGround = 0;
        int sacksLate = 0;
        int sacksTakenBack = 0;

        Creek() {
            Mill first = null;
            for (int number = MILLS - 1; number >= 0; number--) {
                first = new Mill(number, first);
            }
            firstMill = first;
        }

        void copyFrom(Creek other) {
            tideStep = other.tideStep;
            leastHead = other.leastHead;
            waterForHour = other.waterForHour;
            hour = other.hour;
            turnedMill = other.turnedMill;
            idleHours = other.idleHours;
            waterIn = other.waterIn;
            waterUsed = other.waterUsed;
            sacksCame = other.sacksCame;
            sacksGround = other.sacksGround;
            sacksLate = other.sacksLate;
            sacksTakenBack = other.sacksTakenBack;
            Mill its = other.firstMill;
            for (Mill mill = firstMill; mill != null && its != null; mill = mill.neighbour) {
                mill.copyFrom(its);
                its = its.neighbour;
            }
        }

        Mill millAt(int number) {
            for (Mill mill = firstMill; mill != null; mill = mill.neighbour) {
                if (mill.number == number) {
                    return mill;
                }
            }
            return null;
        }

        Mill millOfSack(int sack) {
            for (Mill mill = firstMill; mill != null; mill = mill.neighbour) {
                if (mill.placeOf(sack) != NONE) {
                    return mill;
                }
            }
            return null;
        }

        int settingAt(int setting) {
            switch (setting) {
                case 0:
                    return tideStep;
                case 1:
                    return leastHead;
                default:
                    return waterForHour;
            }
        }

        void changeSetting(int setting, int value) {
            switch (setting) {
                case 0:
                    tideStep = value;
                    break;
                case 1:
                    leastHead = value;
                    break;
                default:
                    waterForHour = value;
                    break;
            }
        }

        void changeStone(int number, int stone) {
            Mill mill = millAt(number);
            if (mill != null) {
                mill.stone = stone;
            }
        }

        int tideIn(int anHour) {
            int tideHour = anHour % TIDE_HOURS;
            return tideStep * (tideHour < 6 ? 6 - tideHour : tideHour - 6);
        }

        int waterInPonds() {
            int water = 0;
            for (Mill mill = firstMill; mill != null; mill = mill.neighbour) {
                water += mill.water;
            }
            return water;
        }

        int sacksAtMills() {
            int sacks = 0;
            for (Mill mill = firstMill; mill != null; mill = mill.neighbour) {
                sacks += mill.sackCount;
            }
            return sacks;
        }

        int restsOfAll() {
            int rests = 0;
            for (Mill mill = firstMill; mill != null; mill = mill.neighbour) {
                for (int place = 0; place < mill.sackCount; place++) {
                    rests += mill.restAt(place);
                }
            }
            return rests;
        }

        boolean hasRoomForSack(Mill mill) {
            return mill.sackCount < SACKS_AT_MILL && sacksCame < SACKS_IN_ALL;
        }

        int bringSack(Mill mill, int hardness, int due) {
            if (!hasRoomForSack(mill)) {
                return NONE;
            }
            int number = sacksCame;
            mill.putSack(number, hardness, hardness, due);
            sacksCame++;
            return number;
        }

        int reasonToRest(Mill mill) {
            if (mill.sackCount == 0) {
                return 1;
            }
            if (mill.headAt(tideIn(hour)) < leastHead) {
                return 2;
            }
            return mill.water < waterForHour ? 3 : 0;
        }

        /** Both must be mills that can turn. */
        private boolean turnsAheadOf(Mill one, Mill other) {
            int due = one.firstDue();
            int otherDue = other.firstDue();
            if (due != otherDue) {
                return due < otherDue;
            }
            int tideNow = tideIn(hour);
            int head = one.headAt(tideNow);
            int otherHead = other.headAt(tideNow);
            return head == otherHead ? one.number < other.number : head > otherHead;
        }

        /** The first in the order of those that can turn, or the one behind a mill there. */
        Mill millBehind(Mill previous) {
            Mill first = null;
            for (Mill mill = firstMill; mill != null; mill = mill.neighbour) {
                boolean inQuestion = reasonToRest(mill) == 0
                        && (previous == null || turnsAheadOf(previous, mill));
                if (inQuestion && (first == null || turnsAheadOf(mill, first))) {
                    first = mill;
                }
            }
            return first;
        }

        Mill millAheadOfAll() {
            for (Mill mill = firstMill; mill != null; mill = mill.neighbour) {
                if (reasonToRest(mill) == 0 && isAheadOfAllOthers(mill)) {
                    return mill;
                }
            }
            return null;
        }

        private boolean isAheadOfAllOthers(Mill mill) {
            for (Mill other = firstMill; other != null; other = other.neighbour) {
                if (other != mill && reasonToRest(other) == 0 && turnsAheadOf(other, mill)) {
                    return false;
                }
            }
            return true;
        }

        void passHours(int hours) {
            for (int passed = 0; passed < hours; passed++) {
                hour++;
                letWaterIn();
                Mill turning = millBehind(null);
                turnedMill = numberOrNone(turning);
                if (turning == null) {
                    idleHours++;
                } else {
                    grind(turning, turn(turning));
                }
            }
        }

        private void letWaterIn() {
            int tideNow = tideIn(hour);
            for (Mill mill = firstMill; mill != null; mill = mill.neighbour) {
                waterIn += mill.letIn(hour, tideNow);
            }
        }

        /** Returns how often the stone turns. */
        private int turn(Mill mill) {
            int turns = mill.turnsOfStone(mill.headAt(tideIn(hour)));
            mill.water -= waterForHour;
            waterUsed += waterForHour;
            mill.hoursTurned++;
            return turns;
        }

        private void grind(Mill mill, int turns) {
            int left = turns;
            for (int sacks = mill.sackCount; sacks > 0 && left >= mill.restAt(0); sacks--) {
                left -= mill.restAt(0);
                if (hour > mill.firstDue()) {
                    sacksLate++;
                }
                sacksGround++;
                mill.sacksGround++;
                mill.dropSack(0);
            }
            mill.grindFirst(left);
        }
    }

    /** A mill of a creek; the mills stand in a chain, so that each look at one tests that it is there. */
    private static final class Mill {
        final int number;
        final Mill neighbour;
        int capacity = 200;
        int water = 0;
        int sill = 20;
        int gateFrom = 0;
        int gateTo = 11;
        int wheel = 40;
        int stone = 10;
        int hoursTurned = 0;
        int sacksGround = 0;
        int sackCount = 0;
        private final int[] sackNumbers = new int[SACKS_AT_MILL];
        private final int[] sackHardnesses = new int[SACKS_AT_MILL];
        private final int[] sackRests = new int[SACKS_AT_MILL];
        private final int[] sackDues = new int[SACKS_AT_MILL];

        Mill(int number, Mill neighbour) {
            this.number = number;
            this.neighbour = neighbour;
        }

        void copyFrom(Mill other) {
            capacity = other.capacity;
            water = other.water;
            sill = other.sill;
            gateFrom = other.gateFrom;
            gateTo = other.gateTo;
            wheel = other.wheel;
            stone = other.stone;
            hoursTurned = other.hoursTurned;
            sacksGround = other.sacksGround;
            sackCount = other.sackCount;
            for (int place = 0; place < SACKS_AT_MILL; place++) {
                sackNumbers[place] = other.sackNumbers[place];
                sackHardnesses[place] = other.sackHardnesses[place];
                sackRests[place] = other.sackRests[place];
                sackDues[place] = other.sackDues[place];
            }
        }

        int headAt(int tideNow) {
            int filled = capacity > 0 ? water * 100 / capacity : 0;
            return filled - tideNow;
        }

        int turnsOfStone(int turnsOfWheel) {
            return stone > 0 ? turnsOfWheel * wheel / stone : 0;
        }

        int letIn(int hour, int tideNow) {
            int tideHour = hour % TIDE_HOURS;
            if (tideHour < gateFrom || tideHour > gateTo || tideNow <= sill) {
                return 0;
            }
            int came = Math.min(2 * (tideNow - sill), capacity - water);
            water += came;
            return came;
        }

        int numberAt(int place) {
            return isPlace(place) ? sackNumbers[place] : NONE;
        }

        int hardnessAt(int place) {
            return isPlace(place) ? sackHardnesses[place] : NONE;
        }

        int restAt(int place) {
            return isPlace(place) ? sackRests[place] : NONE;
        }

        int dueAt(int place) {
            return isPlace(place) ? sackDues[place] : NONE;
        }

        int firstDue() {
            return sackCount > 0 ? sackDues[0] : NONE;
        }

        private boolean isPlace(int place) {
            return place >= 0 && place < sackCount && place < SACKS_AT_MILL;
        }

        int placeOf(int sack) {
            for (int place = 0; place < sackCount && place < SACKS_AT_MILL; place++) {
                if (sackNumbers[place] == sack) {
                    return place;
                }
            }
            return NONE;
        }

        int putSack(int sack, int hardness, int rest, int due) {
            if (sackCount < 0 || sackCount >= SACKS_AT_MILL) {
                return NONE;
            }
            int place = placeFor(sack, due);
            for (int to = sackCount; to > place; to--) {
                moveSack(to - 1, to);
            }
            sackCount++;
            if (isPlace(place)) {
                sackNumbers[place] = sack;
                sackHardnesses[place] = hardness;
                sackRests[place] = rest;
                sackDues[place] = due;
            }
            return place;
        }

        private int placeFor(int sack, int due) {
            int place = 0;
            while (place < sackCount && place < SACKS_AT_MILL
                    && (sackDues[place] < due || (sackDues[place] == due && sackNumbers[place] < sack))) {
                place++;
            }
            return place;
        }

        void dropSack(int place) {
            if (!isPlace(place)) {
                return;
            }
            for (int to = place; to < sackCount - 1; to++) {
                moveSack(to + 1, to);
            }
            sackCount--;
        }

        private void moveSack(int from, int to) {
            if (from < 0 || from >= SACKS_AT_MILL || to < 0 || to >= SACKS_AT_MILL) {
                return;
            }
            sackNumbers[to] = sackNumbers[from];
            sackHardnesses[to] = sackHardnesses[from];
            sackRests[to] = sackRests[from];
            sackDues[to] = sackDues[from];
        }

        void grindFirst(int turns) {
            if (isPlace(0)) {
                sackRests[0] -= turns;
            }
        }
    }

    /** The saved states; the rows are made once and used again. */
    private static final class History {
        private final Creek[] states = new Creek[SAVED_STATES];
        int savedStates = 0;

        History() {
            for (int at = 0; at < SAVED_STATES; at++) {
                states[at] = new Creek();
            }
        }

        void save(Creek creek) {
            if (savedStates >= SAVED_STATES) {
                dropOldest();
            }
            Creek state = stateAt(savedStates);
            if (state != null) {
                state.copyFrom(creek);
                savedStates++;
            }
        }

        void restoreLatest(Creek creek) {
            Creek state = stateAt(savedStates - 1);
            if (state != null) {
                creek.copyFrom(state);
                savedStates--;
            }
        }

        private void dropOldest() {
            Creek oldest = states[0];
            for (int at = 1; at < SAVED_STATES; at++) {
                states[at - 1] = states[at];
            }
            states[SAVED_STATES - 1] = oldest;
            savedStates--;
        }

        private Creek stateAt(int at) {
            return at >= 0 && at < SAVED_STATES ? states[at] : null;
        }
    }

    /** Reads works as a text by their characters, as far as they can still become such a text. */
    private static final class PartReader {
        static final char SACK = 's';
        static final char GEAR = 'g';
        static final char HOURS = '+';
        static final char SEPARATOR = ';';
        private static final int NUMBERS = 3;
        private static final int MOST_DIGITS = 4;

        int kind = NONE;
        private final int[] numbers = new int[NUMBERS];
        private int reading = 0;
        private int digits = 0;

        void begin() {
            kind = NONE;
            beginNumber(0);
        }

        private void beginNumber(int which) {
            reading = which;
            digits = 0;
            if (which >= 0 && which < NUMBERS) {
                numbers[which] = 0;
            }
        }

        int numberAt(int which) {
            return which >= 0 && which < NUMBERS ? numbers[which] : NONE;
        }

        /** False if no works as a text go on with this character, which is not taken then. */
        boolean take(int code) {
            if (kind == NONE) {
                return takeKind(code);
            }
            if (code >= '0' && code <= '9') {
                return takeDigit(code - '0');
            }
            if (code == ',') {
                return takeComma();
            }
            return code == SEPARATOR && takeSeparator();
        }

        boolean partIsWhole() {
            return kind != NONE && reading == lastNumber() && numberIsWhole();
        }

        private boolean takeKind(int code) {
            if (code != SACK && code != GEAR && code != HOURS) {
                return false;
            }
            kind = code;
            return true;
        }

        private boolean takeDigit(int digit) {
            int value = numberAt(reading);
            boolean leadingZero = digits > 0 && value == 0;
            int longer = value * 10 + digit;
            if (leadingZero || !canBecomeNumber(longer) || reading < 0 || reading >= NUMBERS) {
                return false;
            }
            numbers[reading] = longer;
            digits++;
            return true;
        }

        private boolean takeComma() {
            if (!numberIsWhole() || reading >= lastNumber()) {
                return false;
            }
            beginNumber(reading + 1);
            return true;
        }

        private boolean takeSeparator() {
            if (!partIsWhole()) {
                return false;
            }
            begin();
            return true;
        }

        private boolean numberIsWhole() {
            int value = numberAt(reading);
            return digits > 0 && value >= least() && value <= most();
        }

        /** Whether these digits, or more behind them, are a number in the range. */
        private boolean canBecomeNumber(int value) {
            if (value == 0) {
                return least() == 0;
            }
            int lowest = value;
            int highest = value;
            for (int more = 0; more < MOST_DIGITS; more++) {
                if (lowest <= most() && highest >= least()) {
                    return true;
                }
                lowest = lowest * 10;
                highest = highest * 10 + 9;
            }
            return false;
        }

        private int lastNumber() {
            return kind == HOURS ? 0 : NUMBERS - 1;
        }

        private int least() {
            if (kind == HOURS) {
                return 1;
            }
            if (reading == 0) {
                return 0;
            }
            return kind == SACK ? 1 : LEAST_TEETH;
        }

        private int most() {
            if (kind == HOURS) {
                return MOST_HOURS;
            }
            if (reading == 0) {
                return MILLS - 1;
            }
            if (kind == GEAR) {
                return MOST_TEETH;
            }
            return reading == 1 ? MOST_HARDNESS : MOST_DUE;
        }
    }
}
