/** Promises 23 to 27: what would be, and how even the flow is. */
public final class WouldBeTest {
    private static final Class<IllegalArgumentException> ARGUMENT = IllegalArgumentException.class;
    private static final Class<IndexOutOfBoundsException> INDEX = IndexOutOfBoundsException.class;

    public static void main(String[] args) {
        ifRightOutOfRange();
        ifRight();
        ifRightMakesOthersSuspect();
        ifRightMakesOthersTrusted();
        ifRightOfNone();
        worst();
        ifRake();
        fineRake();
        evenness();
        Check.end();
    }

    /** Two holes, and a true head of 6400 (a speed of 8000) everywhere. */
    private static DuctRake even() {
        DuctRake x = new DuctRake();
        x.rake(2);
        x.set(1, 0);
        return x;
    }

    private static void ifRightOutOfRange() {
        DuctRake x = even();
        Check.load(x, "1,1");
        for (int hole : new int[] {-1, 2, 8, Integer.MIN_VALUE, Integer.MAX_VALUE}) {
            Check.refused("ifRight " + hole, x, INDEX, () -> x.ifRight(hole));
        }
        long before = x.digest();
        x.ifRight(0);
        x.worst();
        x.ifRake(7);
        x.fineRake(9);
        x.evenness();
        Check.same("nothing is changed", x.digest(), before);
    }

    private static void ifRight() {
        DuctRake x = even();
        Check.load(x, "6400,1600");
        Check.same("told by hole 0 alone", x.flow(0), 800000);
        Check.same("ifRight(1) of a low one", x.ifRight(1), 800000);
        x.set(3, 25);
        Check.same("both trusted", x.flow(0), 600000);
        Check.same("ifRight(0)", x.ifRight(0), 600000);
        Check.same("ifRight(1)", x.ifRight(1), 800000);
        x.leak(0, 10);
        x.block(0, 50);
        x.test(0);
        Check.same("hole 0 has failed", x.flow(0), 400000);
        Check.same("ifRight(0): as if its test was passed", x.ifRight(0), 600000);
        Check.same("ifRight(1): hole 0 stays failed", x.ifRight(1), 800000);
        Check.same("the test is not changed", x.hole(0, 3), 2);
        Check.same("nor is the mean", x.hole(1, 7), 1600);
    }

    private static void ifRightMakesOthersSuspect() {
        DuctRake x = even();
        Check.load(x, "100,100");
        Check.same("told", x.flow(0), 100000);
        Check.same("ifRight(0): hole 1 is low then", x.ifRight(0), 800000);
        Check.same("ifRight(1): hole 0 is low then", x.ifRight(1), 800000);
    }

    private static void ifRightMakesOthersTrusted() {
        DuctRake x = even();
        x.rake(3);
        Check.load(x, "99999,6400,6400");
        Check.same("low beside hole 0", x.count(4), 1);
        Check.same("ifRight(0)", x.ifRight(0), 3 * 266666);
        x.leak(0, 100);
        x.test(0);
        Check.same("none trusted", x.flow(0), -1);
        Check.same("ifRight(0) without a whole", x.ifRight(0), 3 * 266666);
        Check.same("ifRight(1): still none", x.ifRight(1), -1);
        Check.same("worst of none trusted", x.worst(), -1);
    }

    private static void ifRightOfNone() {
        DuctRake x = even();
        Check.same("no reading", x.ifRight(0), -1);
        Check.load(x, "100,0,0");
        Check.same("none that counts", x.ifRight(0), -1);
        Check.load(x, "100,0");
        x.set(0, 0);
        Check.same("told", x.flow(0), 100000);
        Check.same("ifRight(0): a true head of 0", x.ifRight(0), -1);
        Check.same("ifRight(1)", x.ifRight(1), 100000);
        Check.same("worst leaves hole 0 out", x.worst(), 1);
    }

    private static void worst() {
        DuctRake x = even();
        Check.same("no reading", x.worst(), -1);
        Check.load(x, "6400,1600");
        Check.same("no difference: the lowest", x.worst(), 0);
        x.set(3, 25);
        Check.same("hole 1", x.worst(), 1);
        x.leak(0, 10);
        x.test(0);
        Check.same("400000 against 200000", x.worst(), 1);
        x.drop(0);
        x.clean(0);
        Check.load(x, "25600,6400");
        Check.same("told too much", x.flow(0), 1200000);
        Check.same("ifRight is less", x.ifRight(0), 800000);
        Check.same("without sign", x.worst(), 0);
        x.drop(0);
        x.set(3, 0);
        x.rake(4);
        Check.load(x, "6400,1600,1600,6400");
        Check.same("of several the lowest", x.worst(), 1);
    }

    private static void ifRake() {
        DuctRake x = new DuctRake();
        int[] due = {582400, 585600, 585600, 587520, 587198, 587427, 587200};
        for (int holes = 2; holes <= 8; holes++) {
            Check.same("ifRake " + holes, x.ifRake(holes), due[holes - 2]);
        }
        for (int holes : new int[] {1, 9, 0, -1, Integer.MIN_VALUE, Integer.MAX_VALUE}) {
            Check.refused("ifRake " + holes, x, ARGUMENT, () -> x.ifRake(holes));
        }
        x.radius(437);
        x.set(0, 17777);
        x.set(1, 83);
        x.set(2, 1234);
        int[] would = new int[9];
        for (int holes = 2; holes <= 8; holes++) {
            would[holes] = x.ifRake(holes);
        }
        for (int holes = 2; holes <= 8; holes++) {
            x.rake(holes);
            Check.same("flow(3) with " + holes, x.flow(3), would[holes]);
        }
    }

    private static void fineRake() {
        DuctRake x = new DuctRake();
        int[] mosts = {0, 1, 2, 226, 319, 320, 1599, 1600, 4799, 4800, 99999};
        int[] due = {8, 8, 6, 6, 6, 5, 5, 3, 3, 2, 2};
        for (int i = 0; i < mosts.length; i++) {
            Check.same("fineRake " + mosts[i], x.fineRake(mosts[i]), due[i]);
        }
        for (int most : new int[] {-1, 100000, Integer.MIN_VALUE, Integer.MAX_VALUE}) {
            Check.refused("fineRake " + most, x, ARGUMENT, () -> x.fineRake(most));
        }
        x.set(1, 0);
        Check.same("an even flow, 2 holes", x.fineRake(0), 2);
        x.set(0, 20000);
        x.set(1, 100);
        x.radius(500);
        Check.holds("no rake is fine enough but 8", Math.abs(x.ifRake(2) - x.ifRake(8)) > 99999);
    }

    private static void evenness() {
        DuctRake x = even();
        Check.sameShare("no reading", x.evenness(), 0.0);
        x.set(3, 0);
        Check.load(x, "0,0");
        Check.sameShare("none trusted", x.evenness(), 0.0);
        Check.load(x, "800,3200");
        Check.sameShare("1000 of 2000... means 400, 1600", x.evenness(), 0.5);
        x.rake(3);
        Check.load(x, "900,0,100");
        Check.sameShare("1000 of 3000", x.evenness(), 1000.0 / 3000.0);
        x.drop(2);
        Check.load(x, "400,400,400");
        Check.sameShare("even", x.evenness(), 1.0);
        x.drop(2);
        Check.load(x, "99999,1,0");
        Check.sameShare("least", x.evenness(), 100.0 / 31622.0);
    }
}
