/** Runs of 512 calls, the same every time, on DuctRake and on the model beside it. */
public final class ModelTest {
    private static final int RUNS = 120;
    private static final int CALLS = 512;
    private static final int[] EXTREMES = {-1, Integer.MIN_VALUE, Integer.MAX_VALUE, 0, 1, 2, 5, 8, 9, 12, 13, 14,
        49, 50, 51, 100, 101, 500, 501, 2000, 2001, 20000, 20001, 99999, 100000};
    private static long seed;

    interface Answer {
        long of();
    }

    public static void main(String[] args) {
        for (int run = 0; run < RUNS; run++) {
            seed = 7919L * run + 3;
            DuctRake x = new DuctRake();
            Model m = new Model();
            for (int call = 0; call < CALLS; call++) {
                oneCall(run, call, x, m);
            }
        }
        Check.end();
    }

    /** The upper bits of a linear congruence: those below repeat too soon. */
    private static int below(int bound) {
        seed = seed * 6364136223846793005L + 1442695040888963407L;
        return (int) ((seed >>> 33) % bound);
    }

    private static int near(int bound) {
        int way = below(40);
        return way == 0 ? EXTREMES[below(EXTREMES.length)] : way == 1 ? bound : below(bound);
    }

    private static void oneCall(int run, int call, DuctRake x, Model m) {
        int hole = near(x.count(0));
        int a = near(101);
        switch (below(22)) {
            case 0 -> {
                int holes = below(3) == 0 ? near(10) : x.count(0);
                both(run, call, "rake " + holes, () -> x.rake(holes), () -> m.rake(holes));
            }
            case 1 -> {
                int radius = new int[] {100, 100, 50, 500, 49, 501, 50 + below(451), x.count(1)}[below(8)];
                both(run, call, "radius " + radius, () -> x.radius(radius), () -> m.radius(radius));
            }
            case 2, 3 -> both(run, call, "block " + hole + ", " + a, () -> x.block(hole, a), () -> m.block(hole, a));
            case 4, 5 -> {
                int leak = below(2) == 0 ? near(11) : a;
                both(run, call, "leak " + hole + ", " + leak, () -> x.leak(hole, leak), () -> m.leak(hole, leak));
            }
            case 6 -> both(run, call, "clean " + hole, () -> x.clean(hole), () -> m.clean(hole));
            case 7, 8 -> both(run, call, "test " + hole, () -> x.test(hole), () -> m.test(hole));
            case 9, 10, 11 -> both(run, call, "read", x::read, m::read);
            case 12 -> {
                int reading = near(x.count(2) + 1);
                both(run, call, "drop " + reading, () -> x.drop(reading), () -> m.drop(reading));
            }
            case 13, 14 -> {
                int setting = near(5);
                int value = near(new int[] {20001, 101, 2001, 101, 51}[setting < 0 || setting > 4 ? 0 : setting]);
                both(run, call, "set " + setting + ", " + value, () -> x.set(setting, value), () -> m.set(setting, value));
            }
            case 15, 16 -> text(run, call, x, m);
            case 17 -> {
                int slot = near(2);
                both(run, call, "keep " + slot, () -> x.keep(slot), () -> m.keep(slot));
            }
            case 18 -> {
                int slot = near(2);
                both(run, call, "goBack " + slot, () -> x.goBack(slot), () -> m.goBack(slot));
            }
            case 19, 20 -> both(run, call, "undo", x::undo, m::undo);
            default -> looks(run, call, x, m);
        }
        both(run, call, "digest", x::digest, m::digest);
    }

    private static void text(int run, int call, DuctRake x, Model m) {
        if (below(4) != 0) {
            both(run, call, "clearBuffer", x::clearBuffer, m::clearBuffer);
        }
        StringBuilder text = new StringBuilder();
        int heads = below(3) == 0 ? 1 + below(9) : x.count(0);
        for (int k = 0; k < heads; k++) {
            text.append(k == 0 ? "" : ",").append(below(4) == 0 ? 0 : below(new int[] {10, 1000, 6000, 100003}[below(4)]));
        }
        if (below(4) == 0) {
            text.setCharAt(below(text.length()), (char) (33 + below(94)));
        }
        for (int i = 0; i < text.length(); i++) {
            int code = text.charAt(i);
            both(run, call, "append " + code, () -> x.append(code), () -> m.append(code));
        }
        both(run, call, "firstError of " + text, x::firstError, m::firstError);
        both(run, call, "load of " + text, x::load, m::load);
    }

    private static void looks(int run, int call, DuctRake x, Model m) {
        int hole = near(8);
        int what = near(15);
        both(run, call, "hole " + hole + ", " + what, () -> x.hole(hole, what), () -> m.hole(hole, what));
        both(run, call, "reading " + hole + ", " + what, () -> x.reading(hole, what), () -> m.reading(hole, what));
        both(run, call, "flow " + what, () -> x.flow(what), () -> m.flow(what));
        both(run, call, "count " + what, () -> x.count(what), () -> m.count(what));
        both(run, call, "setting " + what, () -> x.setting(what), () -> m.setting(what));
        both(run, call, "ifRight " + hole, () -> x.ifRight(hole), () -> m.ifRight(hole));
        both(run, call, "worst", x::worst, m::worst);
        both(run, call, "ifRake " + what, () -> x.ifRake(what), () -> m.ifRake(what));
        int most = near(100000);
        both(run, call, "fineRake " + most, () -> x.fineRake(most), () -> m.fineRake(most));
        both(run, call, "evenness", () -> Double.doubleToLongBits(x.evenness()), () -> Double.doubleToLongBits(m.evenness()));
    }

    private static void both(int run, int call, String name, Answer got, Answer due) {
        String answer = told(got);
        String model = told(due);
        Check.holds("run " + run + ", call " + call + ": " + name + " answered " + answer + ", the model " + model,
            answer.equals(model));
    }

    private static String told(Answer answer) {
        try {
            return Long.toString(answer.of());
        } catch (RuntimeException e) {
            return e.getClass().getName();
        }
    }
}
