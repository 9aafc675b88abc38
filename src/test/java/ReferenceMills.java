import java.util.ArrayList;
import java.util.Comparator;
import java.util.HashMap;
import java.util.LinkedList;
import java.util.List;
import java.util.Map;
import java.util.regex.Matcher;
import java.util.regex.Pattern;

/** The document once more, written for plainness alone, to compare TideMills with. */
final class ReferenceMills {
    private static final String SACK = "s[0-4],[1-9][0-9]{0,2},[1-9][0-9]{0,3}";
    private static final String TEETH = "([89]|[1-5][0-9]|60)";
    private static final String GEAR = "g[0-4]," + TEETH + "," + TEETH;
    private static final String HOURS = "[+]([1-9]|[1-3][0-9]|4[0-8])";
    private static final String PART = "(" + SACK + "|" + GEAR + "|" + HOURS + ")";
    private static final Pattern WORKS = Pattern.compile(PART + "(;" + PART + ")*");

    static final class Sack {
        int number;
        int hardness;
        int rest;
        int due;
    }

    static final class Mill {
        int[] v = {200, 0, 20, 0, 11, 40, 10};
        int turned = 0;
        int ground = 0;
        List<Sack> sacks = new ArrayList<>();
    }

    static final class State {
        int[] settings = {10, 20, 20};
        int hour = 0;
        int turning = -1;
        int idle = 0;
        int in = 0;
        int used = 0;
        int came = 0;
        int ground = 0;
        int late = 0;
        int back = 0;
        Mill[] mills = {new Mill(), new Mill(), new Mill(), new Mill(), new Mill()};

        State copy() {
            State c = new State();
            c.settings = settings.clone();
            c.hour = hour;
            c.turning = turning;
            c.idle = idle;
            c.in = in;
            c.used = used;
            c.came = came;
            c.ground = ground;
            c.late = late;
            c.back = back;
            for (int m = 0; m < 5; m++) {
                c.mills[m].v = mills[m].v.clone();
                c.mills[m].turned = mills[m].turned;
                c.mills[m].ground = mills[m].ground;
                for (Sack s : mills[m].sacks) {
                    Sack t = new Sack();
                    t.number = s.number;
                    t.hardness = s.hardness;
                    t.rest = s.rest;
                    t.due = s.due;
                    c.mills[m].sacks.add(t);
                }
            }
            return c;
        }

        int tide(int h) {
            int[] byHour = {6, 5, 4, 3, 2, 1, 0, 1, 2, 3, 4, 5};
            return settings[0] * byHour[h % 12];
        }

        int head(int m) {
            return Math.floorDiv(mills[m].v[1] * 100, mills[m].v[0]) - tide(hour);
        }

        int why(int m) {
            if (mills[m].sacks.isEmpty()) {
                return 1;
            }
            if (head(m) < settings[1]) {
                return 2;
            }
            if (mills[m].v[1] < settings[2]) {
                return 3;
            }
            return 0;
        }

        List<Integer> order() {
            List<Integer> list = new ArrayList<>();
            for (int m = 0; m < 5; m++) {
                if (why(m) == 0) {
                    list.add(m);
                }
            }
            list.sort(Comparator.<Integer>comparingInt(m -> mills[m].sacks.get(0).due)
                    .thenComparingInt(m -> -head(m)).thenComparingInt(m -> m));
            return list;
        }

        void sort(int m) {
            mills[m].sacks.sort(Comparator.<Sack>comparingInt(s -> s.due).thenComparingInt(s -> s.number));
        }

        void step() {
            hour++;
            int tide = tide(hour);
            for (Mill mill : mills) {
                int h = hour % 12;
                if (mill.v[3] <= h && h <= mill.v[4] && tide > mill.v[2]) {
                    int room = mill.v[0] - mill.v[1];
                    int flow = 2 * (tide - mill.v[2]);
                    if (flow > room) {
                        flow = room;
                    }
                    mill.v[1] += flow;
                    in += flow;
                }
            }
            List<Integer> can = order();
            if (can.isEmpty()) {
                idle++;
                turning = -1;
                return;
            }
            turning = can.get(0);
            Mill mill = mills[turning];
            int turns = Math.floorDiv(head(turning) * mill.v[5], mill.v[6]);
            mill.v[1] -= settings[2];
            used += settings[2];
            mill.turned++;
            while (turns > 0 && !mill.sacks.isEmpty()) {
                Sack first = mill.sacks.get(0);
                int ground1 = Math.min(turns, first.rest);
                first.rest -= ground1;
                turns -= ground1;
                if (first.rest == 0) {
                    mill.sacks.remove(0);
                    mill.ground++;
                    ground++;
                    if (hour > first.due) {
                        late++;
                    }
                }
            }
        }

        int rests() {
            int sum = 0;
            for (Mill mill : mills) {
                for (Sack s : mill.sacks) {
                    sum += s.rest;
                }
            }
            return sum;
        }

        int[] find(int sack) {
            for (int m = 0; m < 5; m++) {
                for (int p = 0; p < mills[m].sacks.size(); p++) {
                    if (mills[m].sacks.get(p).number == sack) {
                        return new int[] {m, p};
                    }
                }
            }
            return null;
        }

        boolean bring(int m, int hardness, int due) {
            if (mills[m].sacks.size() >= 6 || came >= 999) {
                return false;
            }
            Sack s = new Sack();
            s.number = came++;
            s.hardness = hardness;
            s.rest = hardness;
            s.due = due;
            mills[m].sacks.add(s);
            sort(m);
            return true;
        }
    }

    State s = new State();
    State kept = null;
    LinkedList<State> saved = new LinkedList<>();
    StringBuilder buffer = new StringBuilder();
    private final Map<String, Integer> errors = new HashMap<>();

    private static void range(int v, int lo, int hi) {
        if (v < lo || v > hi) {
            throw new IllegalArgumentException();
        }
    }

    private static void index(int v, int size) {
        if (v < 0 || v >= size) {
            throw new IndexOutOfBoundsException();
        }
    }

    private static void state(boolean holds) {
        if (!holds) {
            throw new IllegalStateException();
        }
    }

    private void save() {
        saved.addLast(s.copy());
        if (saved.size() > 6) {
            saved.removeFirst();
        }
    }

    int pond(int mill, int capacity, int sill) {
        index(mill, 5);
        range(capacity, 50, 500);
        range(sill, 0, 60);
        state(s.mills[mill].v[1] <= capacity);
        save();
        int old = s.mills[mill].v[0];
        s.mills[mill].v[0] = capacity;
        s.mills[mill].v[2] = sill;
        return old;
    }

    int gate(int mill, int from, int to) {
        index(mill, 5);
        range(from, 0, 11);
        range(to, from, 11);
        save();
        int open = 0;
        for (int h = 0; h < 12; h++) {
            if (h >= s.mills[mill].v[3] && h <= s.mills[mill].v[4]) {
                open++;
            }
        }
        s.mills[mill].v[3] = from;
        s.mills[mill].v[4] = to;
        return open;
    }

    int gear(int mill, int wheel, int stone) {
        index(mill, 5);
        range(wheel, 8, 60);
        range(stone, 8, 60);
        save();
        s.mills[mill].v[5] = wheel;
        s.mills[mill].v[6] = stone;
        return 100 * wheel / stone;
    }

    int set(int setting, int value) {
        index(setting, 3);
        int[][] ranges = {{1, 15}, {0, 100}, {5, 100}};
        range(value, ranges[setting][0], ranges[setting][1]);
        save();
        int old = s.settings[setting];
        s.settings[setting] = value;
        return old;
    }

    int pass(int hours) {
        range(hours, 1, 48);
        save();
        int before = s.ground;
        for (int h = 0; h < hours; h++) {
            s.step();
        }
        return s.ground - before;
    }

    int sack(int mill, int hardness, int due) {
        index(mill, 5);
        range(hardness, 1, 999);
        range(due, 1, 9999);
        state(s.mills[mill].sacks.size() < 6 && s.came < 999);
        save();
        s.bring(mill, hardness, due);
        return s.came - 1;
    }

    int carry(int sack, int mill) {
        index(mill, 5);
        int[] at = s.find(sack);
        state(at != null && at[0] != mill && s.mills[mill].sacks.size() < 6);
        save();
        s.mills[mill].sacks.add(s.mills[at[0]].sacks.remove(at[1]));
        s.sort(mill);
        return s.find(sack)[1];
    }

    int back(int sack) {
        int[] at = s.find(sack);
        state(at != null);
        save();
        s.back++;
        return s.mills[at[0]].sacks.remove(at[1]).rest;
    }

    int append(int code) {
        range(code, 33, 126);
        state(buffer.length() < 60);
        buffer.append((char) code);
        return buffer.length();
    }

    int clearBuffer() {
        int length = buffer.length();
        buffer.setLength(0);
        return length;
    }

    int firstError() {
        return errors.computeIfAbsent(buffer.toString(), ReferenceMills::errorOf);
    }

    /** A beginning can go on if the matcher only missed what is behind its end. */
    private static int errorOf(String text) {
        for (int end = 1; end <= text.length(); end++) {
            Matcher matcher = WORKS.matcher(text.substring(0, end));
            if (!matcher.matches() && !matcher.hitEnd()) {
                return end - 1;
            }
        }
        return text.length();
    }

    int play() {
        if (!WORKS.matcher(buffer).matches()) {
            throw new IllegalArgumentException();
        }
        save();
        int done = 0;
        for (String part : buffer.toString().split(";")) {
            String[] n = part.substring(1).split(",");
            int first = Integer.parseInt(n[0]);
            if (part.charAt(0) == '+') {
                for (int h = 0; h < first; h++) {
                    s.step();
                }
            } else if (part.charAt(0) == 'g') {
                s.mills[first].v[5] = Integer.parseInt(n[1]);
                s.mills[first].v[6] = Integer.parseInt(n[2]);
            } else if (!s.bring(first, Integer.parseInt(n[1]), Integer.parseInt(n[2]))) {
                break;
            }
            done++;
        }
        buffer.setLength(0);
        return done;
    }

    int undo() {
        state(!saved.isEmpty());
        s = saved.removeLast();
        return saved.size();
    }

    int keep() {
        kept = s.copy();
        return s.hour;
    }

    int restore() {
        state(kept != null);
        save();
        s = kept.copy();
        return s.hour;
    }

    int mill(int mill, int what) {
        index(mill, 5);
        range(what, 0, 10);
        Mill m = s.mills[mill];
        if (what <= 6) {
            return m.v[what];
        }
        return new int[] {m.sacks.size(), s.head(mill) + 1000, m.turned, m.ground}[what - 7];
    }

    int sackAt(int mill, int place) {
        index(mill, 5);
        range(place, 0, Integer.MAX_VALUE);
        List<Sack> sacks = s.mills[mill].sacks;
        return place < sacks.size() ? sacks.get(place).number : -1;
    }

    int sackOf(int sack, int what) {
        range(what, 0, 4);
        int[] at = s.find(sack);
        if (at == null) {
            return -1;
        }
        Sack it = s.mills[at[0]].sacks.get(at[1]);
        return new int[] {at[0], it.hardness, it.rest, it.due, at[1]}[what];
    }

    int whyNot(int mill) {
        index(mill, 5);
        return s.why(mill);
    }

    int tide(int hour) {
        range(hour, 0, Integer.MAX_VALUE);
        return s.tide(hour);
    }

    int count(int what) {
        range(what, 0, 14);
        int water = 0;
        int sacks = 0;
        for (Mill m : s.mills) {
            water += m.v[1];
            sacks += m.sacks.size();
        }
        return new int[] {s.hour, s.turning, s.idle, s.in, s.used, water, s.came, sacks, s.ground, s.late, s.back,
            s.settings[0], s.settings[1], s.settings[2], saved.size()}[what];
    }

    int next(int rank) {
        range(rank, 0, Integer.MAX_VALUE);
        List<Integer> order = s.order();
        return rank < order.size() ? order.get(rank) : -1;
    }

    int chosen() {
        return next(0);
    }

    int ifPassed(int hours, int what) {
        range(hours, 1, 48);
        range(what, 0, 3);
        State t = s.copy();
        for (int h = 0; h < hours; h++) {
            t.step();
        }
        return new int[] {t.ground - s.ground, t.late - s.late, t.idle - s.idle, t.used - s.used}[what];
    }

    int groundIn(int sack) {
        if (s.find(sack) == null) {
            return -1;
        }
        State t = s.copy();
        for (int h = 1; h <= 200; h++) {
            t.step();
            if (t.find(sack) == null) {
                return h;
            }
        }
        return -1;
    }

    int bestStone(int mill) {
        index(mill, 5);
        int best = 0;
        int most = -1;
        for (int stone = 8; stone <= 60; stone += 4) {
            State t = s.copy();
            t.mills[mill].v[6] = stone;
            for (int h = 0; h < 24; h++) {
                t.step();
            }
            int less = s.rests() - t.rests();
            if (less >= most) {
                most = less;
                best = stone;
            }
        }
        return best;
    }

    double inTime() {
        return s.ground == 0 ? 1.0 : (double) (s.ground - s.late) / s.ground;
    }

    long digest() {
        List<Long> list = new ArrayList<>();
        for (int what = 0; what <= 14; what++) {
            list.add((long) count(what));
        }
        for (int m = 0; m < 5; m++) {
            for (int what = 0; what <= 10; what++) {
                list.add((long) mill(m, what));
            }
            list.add((long) whyNot(m));
            for (Sack sack : s.mills[m].sacks) {
                list.add((long) sack.number);
                list.add((long) sack.rest);
            }
            list.add(s.mills[m].sacks.isEmpty() ? -1L : (long) groundIn(s.mills[m].sacks.get(0).number));
            list.add((long) bestStone(m));
        }
        for (int h = 0; h < 12; h++) {
            list.add((long) tide(h));
        }
        for (int rank = 0; rank < 5; rank++) {
            list.add((long) next(rank));
        }
        list.add((long) chosen());
        for (int what = 0; what < 4; what++) {
            list.add((long) ifPassed(12, what));
        }
        list.add(Double.doubleToLongBits(inTime()));
        list.add((long) buffer.length());
        for (char c : buffer.toString().toCharArray()) {
            list.add((long) c);
        }
        long hash = 3659;
        for (long v : list) {
            hash = 31 * hash + v;
        }
        return hash;
    }
}
