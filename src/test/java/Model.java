import java.util.ArrayDeque;
import java.util.ArrayList;
import java.util.Arrays;
import java.util.List;
import java.util.regex.Pattern;

/** The document once more, in another shape: plain lists that are copied whole, and searches instead of passes. */
final class Model {
    record Reading(List<Integer> heads, int radius) {
    }

    static final class State {
        int holes = 4;
        int radius = 100;
        int[] settings = {8000, 40, 0, 50, 5};
        int[] passes = filled(4, 100);
        int[] leaks = new int[4];
        int[] tests = new int[4];
        int[] works = new int[4];
        List<Reading> readings = new ArrayList<>();
        int taken;
        int readingWork;
        int oldWork;

        State copy() {
            State s = new State();
            s.holes = holes;
            s.radius = radius;
            s.settings = settings.clone();
            s.passes = passes.clone();
            s.leaks = leaks.clone();
            s.tests = tests.clone();
            s.works = works.clone();
            s.readings = new ArrayList<>(readings);
            s.taken = taken;
            s.readingWork = readingWork;
            s.oldWork = oldWork;
            return s;
        }
    }

    private static final Pattern READING = Pattern.compile("(0|[1-9][0-9]{0,4})(,(0|[1-9][0-9]{0,4})){0,7}");

    State now = new State();
    final State[] slots = new State[2];
    final ArrayDeque<State> saved = new ArrayDeque<>();
    final StringBuilder buffer = new StringBuilder();

    private static int[] filled(int size, int value) {
        int[] row = new int[size];
        Arrays.fill(row, value);
        return row;
    }

    private void save() {
        saved.addLast(now.copy());
        if (saved.size() > 6) {
            saved.removeFirst();
        }
    }

    private void needHole(int hole) {
        if (hole < 0 || hole >= now.holes) {
            throw new IndexOutOfBoundsException();
        }
    }

    private static void need(boolean is) {
        if (!is) {
            throw new IllegalArgumentException();
        }
    }

    private static boolean in(int value, int least, int most) {
        return value >= least && value <= most;
    }

    int rake(int holes) {
        need(in(holes, 2, 8));
        save();
        int before = now.holes;
        now.oldWork += Arrays.stream(now.works).sum();
        now.holes = holes;
        now.passes = filled(holes, 100);
        now.leaks = new int[holes];
        now.tests = new int[holes];
        now.works = new int[holes];
        return before;
    }

    int radius(int radius) {
        need(in(radius, 50, 500));
        save();
        int before = now.radius;
        now.radius = radius;
        return before;
    }

    int block(int hole, int passes) {
        needHole(hole);
        need(in(passes, 0, 100));
        save();
        int before = now.passes[hole];
        now.passes[hole] = passes;
        return before;
    }

    int leak(int hole, int leak) {
        needHole(hole);
        need(in(leak, 0, 100));
        save();
        int before = now.leaks[hole];
        now.leaks[hole] = leak;
        return before;
    }

    int clean(int hole) {
        needHole(hole);
        save();
        int work = 2 + (100 - now.passes[hole]) / 10 + (now.leaks[hole] == 0 ? 0 : 4);
        now.works[hole] += work;
        now.passes[hole] = 100;
        now.leaks[hole] = 0;
        now.tests[hole] = 0;
        return work;
    }

    int test(int hole) {
        needHole(hole);
        save();
        now.works[hole] += 3;
        now.tests[hole] = now.leaks[hole] > now.settings[4] ? 2 : 1;
        return now.tests[hole];
    }

    private void take(List<Integer> heads) {
        now.readings.add(new Reading(heads, now.radius));
        if (now.readings.size() > 12) {
            now.readings.remove(0);
        }
        now.taken++;
        now.readingWork += 5;
    }

    int read() {
        save();
        List<Integer> heads = new ArrayList<>();
        for (int k = 0; k < now.holes; k++) {
            heads.add(felt(k));
        }
        take(heads);
        return now.readings.size();
    }

    int drop(int reading) {
        if (reading < 0 || reading >= now.readings.size()) {
            throw new IndexOutOfBoundsException();
        }
        save();
        now.readings.remove(reading);
        return now.readings.size();
    }

    int set(int setting, int value) {
        setting(setting);
        need(in(value, 0, new int[] {20000, 100, 2000, 100, 50}[setting]));
        save();
        int before = now.settings[setting];
        now.settings[setting] = value;
        return before;
    }

    int append(int code) {
        need(in(code, 33, 126));
        if (buffer.length() == 50) {
            throw new IllegalStateException();
        }
        buffer.append((char) code);
        return buffer.length();
    }

    int clearBuffer() {
        int before = buffer.length();
        buffer.setLength(0);
        return before;
    }

    /** A text is begun by these characters if it is a reading, or is one with a 0 behind it. */
    int firstError() {
        for (int end = 1; end <= buffer.length(); end++) {
            String start = buffer.substring(0, end);
            if (!READING.matcher(start).matches() && !READING.matcher(start + "0").matches()) {
                return end - 1;
            }
        }
        return buffer.length();
    }

    int load() {
        need(READING.matcher(buffer).matches());
        save();
        List<Integer> heads = new ArrayList<>();
        for (String head : buffer.toString().split(",")) {
            heads.add(Integer.parseInt(head));
        }
        take(heads);
        buffer.setLength(0);
        return heads.size();
    }

    int keep(int slot) {
        need(in(slot, 0, 1));
        slots[slot] = now.copy();
        return now.readings.size();
    }

    int goBack(int slot) {
        need(in(slot, 0, 1));
        if (slots[slot] == null) {
            throw new IllegalStateException();
        }
        save();
        now = slots[slot].copy();
        return now.readings.size();
    }

    int undo() {
        if (saved.isEmpty()) {
            throw new IllegalStateException();
        }
        now = saved.removeLast();
        return saved.size();
    }

    private int root(long number) {
        long root = (long) Math.sqrt((double) number);
        while (root * root > number) {
            root--;
        }
        while ((root + 1) * (root + 1) <= number) {
            root++;
        }
        return (int) root;
    }

    private int distance(int hole, int holes) {
        return root((long) now.radius * now.radius * (2 * hole + 1) / (2 * holes));
    }

    private int speed(int hole, int holes) {
        long r = distance(hole, holes);
        long middle = now.settings[0];
        return (int) (middle - middle * now.settings[1] * r / (100L * now.radius) + now.settings[2] * r / now.radius);
    }

    private int head(int hole) {
        long speed = speed(hole, now.holes);
        return (int) (speed * speed / 10000);
    }

    private int felt(int hole) {
        int passed = head(hole) * now.passes[hole] / 100;
        return passed - passed * now.leaks[hole] / 100;
    }

    private boolean counts(Reading reading) {
        return reading.heads().size() == now.holes && reading.radius() == now.radius;
    }

    private int counting() {
        int sum = 0;
        for (Reading reading : now.readings) {
            sum += counts(reading) ? 1 : 0;
        }
        return sum;
    }

    /** The mean of a hole; that of the hole that is thought right is its true head. */
    private int mean(int hole, int right) {
        if (counting() == 0) {
            return -1;
        }
        if (hole == right) {
            return head(hole);
        }
        int sum = 0;
        for (Reading reading : now.readings) {
            sum += counts(reading) ? reading.heads().get(hole) : 0;
        }
        return sum / counting();
    }

    private int reason(int hole, int right) {
        if (counting() == 0) {
            return 1;
        }
        if (mean(hole, right) == 0) {
            return 2;
        }
        int greatest = 0;
        for (int k = 0; k < now.holes; k++) {
            greatest = Math.max(greatest, mean(k, right));
        }
        if (100L * mean(hole, right) < (long) now.settings[3] * greatest) {
            return 3;
        }
        return now.tests[hole] == 2 && hole != right ? 4 : 0;
    }

    private int told(int hole, int right) {
        if (reason(hole, right) == 0) {
            return root(10000L * mean(hole, right));
        }
        int in = hole - 1;
        while (in >= 0 && reason(in, right) != 0) {
            in--;
        }
        int out = hole + 1;
        while (out < now.holes && reason(out, right) != 0) {
            out++;
        }
        if (in < 0 && out == now.holes) {
            return -1;
        }
        if (in < 0) {
            return told(out, right);
        }
        return out == now.holes ? told(in, right) : (told(in, right) + told(out, right)) / 2;
    }

    private int ring(int told, int holes) {
        return told < 0 ? -1 : (int) ((long) told * (now.radius * now.radius / 100) / holes);
    }

    private int rings(int from, int end, int right) {
        int sum = 0;
        for (int k = from; k < end; k++) {
            int ring = ring(told(k, right), now.holes);
            if (ring < 0) {
                return -1;
            }
            sum += ring;
        }
        return sum;
    }

    int hole(int hole, int what) {
        needHole(hole);
        need(in(what, 0, 11));
        int[] all = {distance(hole, now.holes), now.passes[hole], now.leaks[hole], now.tests[hole],
            speed(hole, now.holes), head(hole), felt(hole), mean(hole, -1), reason(hole, -1), told(hole, -1),
            ring(told(hole, -1), now.holes), now.works[hole]};
        return all[what];
    }

    int reading(int reading, int what) {
        if (reading < 0 || reading >= now.readings.size()) {
            throw new IndexOutOfBoundsException();
        }
        need(in(what, 0, 10));
        Reading r = now.readings.get(reading);
        if (what < 8) {
            return what < r.heads().size() ? r.heads().get(what) : -1;
        }
        return what == 8 ? r.heads().size() : what == 9 ? r.radius() : counts(r) ? 1 : 0;
    }

    int flow(int what) {
        need(in(what, 0, 3));
        int half = now.holes / 2;
        return what == 0 ? rings(0, now.holes, -1) : what == 1 ? rings(0, half, -1)
            : what == 2 ? rings(half, now.holes, -1) : ifRake(now.holes);
    }

    private int ofReason(int reason) {
        int sum = 0;
        for (int k = 0; k < now.holes; k++) {
            sum += reason(k, -1) == reason ? 1 : 0;
        }
        return sum;
    }

    int count(int what) {
        need(in(what, 0, 13));
        int[] all = {now.holes, now.radius, now.readings.size(), counting(), ofReason(0), ofReason(1), ofReason(2),
            ofReason(3), ofReason(4), now.readingWork + now.oldWork + Arrays.stream(now.works).sum(),
            now.readingWork, now.oldWork, now.taken, saved.size()};
        return all[what];
    }

    int setting(int setting) {
        if (!in(setting, 0, 4)) {
            throw new IndexOutOfBoundsException();
        }
        return now.settings[setting];
    }

    int ifRight(int hole) {
        needHole(hole);
        return rings(0, now.holes, hole);
    }

    int worst() {
        if (ofReason(0) == 0) {
            return -1;
        }
        int worst = -1;
        for (int k = now.holes - 1; k >= 0; k--) {
            if (ifRight(k) >= 0 && (worst < 0 || Math.abs(ifRight(k) - flow(0)) >= Math.abs(ifRight(worst) - flow(0)))) {
                worst = k;
            }
        }
        return worst;
    }

    int ifRake(int holes) {
        need(in(holes, 2, 8));
        int sum = 0;
        for (int k = 0; k < holes; k++) {
            sum += ring(speed(k, holes), holes);
        }
        return sum;
    }

    int fineRake(int most) {
        need(in(most, 0, 99999));
        int holes = 2;
        while (Math.abs(ifRake(holes) - ifRake(8)) > most) {
            holes++;
        }
        return holes;
    }

    double evenness() {
        double least = Double.MAX_VALUE;
        double greatest = 0;
        for (int k = 0; k < now.holes; k++) {
            least = Math.min(least, told(k, -1));
            greatest = Math.max(greatest, told(k, -1));
        }
        return greatest > 0 ? least / greatest : 0.0;
    }

    long digest() {
        List<Long> values = new ArrayList<>();
        for (int what = 0; what <= 13; what++) {
            values.add((long) count(what));
        }
        for (int value : now.settings) {
            values.add((long) value);
        }
        for (int k = 0; k < now.holes; k++) {
            for (int what = 0; what <= 11; what++) {
                values.add((long) hole(k, what));
            }
            values.add((long) ifRight(k));
        }
        for (int i = 0; i < now.readings.size(); i++) {
            for (int what = 0; what <= 10; what++) {
                values.add((long) reading(i, what));
            }
        }
        for (int what = 0; what <= 3; what++) {
            values.add((long) flow(what));
        }
        values.add((long) worst());
        for (int holes = 2; holes <= 8; holes++) {
            values.add((long) ifRake(holes));
        }
        values.add((long) fineRake(1000));
        values.add(Double.doubleToLongBits(evenness()));
        values.add(slots[0] == null ? 0L : 1L);
        values.add(slots[1] == null ? 0L : 1L);
        values.add((long) buffer.length());
        for (int i = 0; i < buffer.length(); i++) {
            values.add((long) buffer.charAt(i));
        }
        long hash = 3167;
        for (long v : values) {
            hash = 31 * hash + v;
        }
        return hash;
    }
}
