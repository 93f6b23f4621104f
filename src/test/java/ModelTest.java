/** Runs of 512 calls, the most that an object is used for, the same every time, on DuctRake and on the model. */
public final class ModelTest {
    private static final int RUNS = 300;
    private static final int CALLS = 512;
    private static final int[] EXTREMES = {-1, Integer.MIN_VALUE, Integer.MAX_VALUE, 0, 1, 2, 5, 8, 9, 12, 13, 14,
        49, 50, 51, 100, 101, 500, 501, 2000, 2001, 20000, 20001, 99999, 100000};
    private static long seed;
    private static int calls;

    interface Answer {
        long of();
    }

    public static void main(String[] args) {
        for (int run = 0; run < RUNS; run++) {
            seed = 7919L * run + 3;
            DuctRake x = new DuctRake();
            Model m = new Model();
            calls = 0;
            while (calls < CALLS) {
                step(run, x, m);
            }
        }
        Check.end();
    }

    /** The upper bits of a linear congruence: those below repeat too soon. */
    private static int below(int bound) {
        seed = seed * 6364136223846793005L + 1442695040888963407L;
        return (int) ((seed >>> 33) % bound);
    }

    private static int near(int bound) {
        int way = below(40);
        return way == 0 ? EXTREMES[below(EXTREMES.length)] : way == 1 ? bound : below(bound);
    }

    private static void step(int run, DuctRake x, Model m) {
        int hole = near(m.now.holes);
        int a = near(101);
        switch (below(22)) {
            case 0 -> {
                int holes = below(3) == 0 ? near(10) : m.now.holes;
                both(run, "rake " + holes, () -> x.rake(holes), () -> m.rake(holes));
            }
            case 1 -> {
                int radius = new int[] {100, 100, 50, 500, 49, 501, 50 + below(451), m.now.radius}[below(8)];
                both(run, "radius " + radius, () -> x.radius(radius), () -> m.radius(radius));
            }
            case 2, 3 -> both(run, "block " + hole + ", " + a, () -> x.block(hole, a), () -> m.block(hole, a));
            case 4, 5 -> {
                int leak = below(2) == 0 ? near(11) : a;
                both(run, "leak " + hole + ", " + leak, () -> x.leak(hole, leak), () -> m.leak(hole, leak));
            }
            case 6 -> both(run, "clean " + hole, () -> x.clean(hole), () -> m.clean(hole));
            case 7, 8 -> both(run, "test " + hole, () -> x.test(hole), () -> m.test(hole));
            case 9, 10, 11 -> both(run, "read", x::read, m::read);
            case 12 -> {
                int reading = near(m.now.readings.size() + 1);
                both(run, "drop " + reading, () -> x.drop(reading), () -> m.drop(reading));
            }
            case 13, 14 -> {
                int setting = near(5);
                int value = near(new int[] {20001, 101, 2001, 101, 51}[setting < 0 || setting > 4 ? 0 : setting]);
                both(run, "set " + setting + ", " + value, () -> x.set(setting, value), () -> m.set(setting, value));
            }
            case 15, 16 -> text(run, x, m);
            case 17 -> {
                int slot = near(2);
                both(run, "keep " + slot, () -> x.keep(slot), () -> m.keep(slot));
            }
            case 18 -> {
                int slot = near(2);
                both(run, "goBack " + slot, () -> x.goBack(slot), () -> m.goBack(slot));
            }
            case 19, 20 -> both(run, "undo", x::undo, m::undo);
            default -> looks(run, x, m);
        }
        both(run, "digest", x::digest, m::digest);
    }

    private static void text(int run, DuctRake x, Model m) {
        if (below(4) != 0) {
            both(run, "clearBuffer", x::clearBuffer, m::clearBuffer);
        }
        StringBuilder text = new StringBuilder();
        int heads = below(3) == 0 ? 1 + below(9) : m.now.holes;
        for (int k = 0; k < heads; k++) {
            text.append(k == 0 ? "" : ",").append(below(4) == 0 ? 0 : below(new int[] {10, 1000, 6000, 100003}[below(4)]));
        }
        if (below(4) == 0) {
            text.setCharAt(below(text.length()), (char) (33 + below(94)));
        }
        for (int i = 0; i < text.length(); i++) {
            int code = text.charAt(i);
            both(run, "append " + code, () -> x.append(code), () -> m.append(code));
        }
        both(run, "firstError of " + text, x::firstError, m::firstError);
        both(run, "load of " + text, x::load, m::load);
    }

    private static void looks(int run, DuctRake x, Model m) {
        int hole = near(8);
        int what = near(15);
        both(run, "hole " + hole + ", " + what, () -> x.hole(hole, what), () -> m.hole(hole, what));
        both(run, "reading " + hole + ", " + what, () -> x.reading(hole, what), () -> m.reading(hole, what));
        both(run, "flow " + what, () -> x.flow(what), () -> m.flow(what));
        both(run, "count " + what, () -> x.count(what), () -> m.count(what));
        both(run, "setting " + what, () -> x.setting(what), () -> m.setting(what));
        both(run, "ifRight " + hole, () -> x.ifRight(hole), () -> m.ifRight(hole));
        both(run, "worst", x::worst, m::worst);
        both(run, "ifRake " + what, () -> x.ifRake(what), () -> m.ifRake(what));
        int most = near(100000);
        both(run, "fineRake " + most, () -> x.fineRake(most), () -> m.fineRake(most));
        both(run, "evenness", () -> Double.doubleToLongBits(x.evenness()), () -> Double.doubleToLongBits(m.evenness()));
    }

    private static void both(int run, String name, Answer got, Answer due) {
        if (calls == CALLS) {
            return;
        }
        calls++;
        String answer = told(got);
        String model = told(due);
        Check.holds("run " + run + ", call " + calls + ": " + name + " answered " + answer + ", the model " + model,
            answer.equals(model));
    }

    private static String told(Answer answer) {
        try {
            return Long.toString(answer.of());
        } catch (RuntimeException e) {
            return e.getClass().getName();
        }
    }
}
