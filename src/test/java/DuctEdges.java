/** The edges that Terms names for numbers, the duct, the rake, the flow, the holes and the tubes. */
final class DuctEdges {
    private static final String TERMS = "Terms";
    private static final String FLOW = "The flow";

    static void run() {
        divisionsAreRoundedDown();
        wholeRootOfSquares();
        wholeRootBelowSquares();
        radiusOfTheDuct();
        holesOfTheRake();
        holesAreNumberedFromTheMiddle();
        distancesOfTheSmallestAndTheGreatest();
        trueSpeedAtLeastAndMostSettings();
        partsOfTheSpeedAreDividedByThemselves();
        trueHead();
        passes();
        leaks();
        latestTest();
        holesAtFirst();
        passedIsRoundedDown();
        leakIsOfWhatPasses();
        Doc.noEdge(TERMS, "Lengths are in millimetres, speeds in millimetres a second.");
        Doc.noEdge(TERMS, "The duct, the rake");
        Doc.noEdge(FLOW, "Holes, tubes");
    }

    /** A duct with the same speed at all of its holes. */
    private static DuctRake even(int speed) {
        DuctRake x = new DuctRake();
        x.set(1, 0);
        x.set(0, speed);
        return x;
    }

    private static void divisionsAreRoundedDown() {
        Doc.of(TERMS, "All numbers are integers, but for a share; divisions are rounded down "
            + "(all divided numbers are at least 0, but where told otherwise).");
        DuctRake x = even(141);
        Check.same("19881 divided by 10000", x.hole(0, 5), 1);
        x.set(0, 142);
        Check.same("20164 divided by 10000", x.hole(0, 5), 2);
        x.set(0, 99);
        Check.same("9801 divided by 10000", x.hole(0, 5), 0);
        x.set(3, 0);
        Check.load(x, "1,0,2,3");
        Check.same("241 divided by 2", x.hole(1, 9), 120);
        Check.same("100 times 100, divided by 4", x.hole(0, 10), 2500);
        Check.same("141 times 100, divided by 4", x.hole(2, 10), 3525);
        Check.same("173 times 100, divided by 4", x.hole(3, 10), 4325);
        Check.load(x, "2,1,2,4");
        Check.same("3 divided by 2", x.hole(0, 7), 1);
        Check.same("1 divided by 2", x.hole(1, 7), 0);
        Check.same("4 divided by 2", x.hole(2, 7), 2);
        Check.same("7 divided by 2", x.hole(3, 7), 3);
        Check.sameShare("a share is not rounded", x.evenness(), 100.0 / 173.0);
        x.radius(50);
        x.rake(8);
        Check.load(x, "1,1,1,1,1,1,1,1");
        Check.same("100 times 25, divided by 8", x.hole(7, 10), 312);
    }

    private static void wholeRootOfSquares() {
        Doc.of(TERMS, "A whole root of a number is the greatest integer whose square is not above it.");
        distance(50, 2, 0, 25); // 625
        distance(500, 2, 0, 250); // 62500
        distance(100, 8, 4, 75); // 5625
        distance(500, 8, 4, 375); // 140625
        told(1, 100);
        told(4, 200);
        told(144, 1200);
        told(10000, 10000);
        told(99856, 31600);
    }

    private static void wholeRootBelowSquares() {
        Doc.of(TERMS, "A whole root of a number is the greatest integer whose square is not above it.");
        distance(112, 2, 1, 96); // 9408 is 97 times 97, less 1
        distance(65, 4, 0, 22); // 528 is 23 times 23, less 1
        distance(120, 3, 0, 48); // 2400 is 49 times 49, less 1
        distance(480, 4, 3, 448); // 201600 is 449 times 449, less 1
        told(156, 1248); // 1560000 is 1249 times 1249, less 1
        told(1407, 3750); // 14070000 is 3751 times 3751, less 1
        told(2, 141); // 141 times 141 is 19881, 142 times 142 is 20164
        told(99999, 31622); // 31622 times 31622 is 999950884, 31623 times 31623 is 1000014129
    }

    private static void distance(int radius, int holes, int hole, int due) {
        DuctRake x = new DuctRake();
        x.radius(radius);
        x.rake(holes);
        Check.same("distance of hole " + hole + " of " + holes + " at " + radius, x.hole(hole, 0), due);
    }

    private static void told(int mean, int due) {
        DuctRake x = new DuctRake();
        x.rake(2);
        Check.load(x, mean + "," + mean);
        Check.same("told speed of the mean " + mean, x.hole(1, 9), due);
    }

    private static void radiusOfTheDuct() {
        Doc.of(TERMS, "The duct has a radius, 50 to 500, at first 100.");
        DuctRake x = new DuctRake();
        Check.same("at first", x.count(1), 100);
        x.radius(50);
        Check.same("least", x.count(1), 50);
        Check.throwsOnly("below", IllegalArgumentException.class, () -> x.radius(49));
        x.radius(500);
        Check.same("most", x.count(1), 500);
        Check.throwsOnly("above", IllegalArgumentException.class, () -> x.radius(501));
        Check.same("still most", x.count(1), 500);
    }

    private static void holesOfTheRake() {
        Doc.of(TERMS, "The rake has 2 to 8 holes, numbered from 0 at the middle, at first 4.");
        DuctRake x = new DuctRake();
        Check.same("at first", x.count(0), 4);
        for (int holes = 2; holes <= 8; holes++) {
            x.rake(holes);
            Check.same("holes", x.count(0), holes);
            x.hole(0, 0);
            x.hole(holes - 1, 0);
            int none = holes;
            Check.throwsOnly("hole " + none, IndexOutOfBoundsException.class, () -> x.hole(none, 0));
            Check.throwsOnly("hole -1", IndexOutOfBoundsException.class, () -> x.hole(-1, 0));
        }
        Check.throwsOnly("above", IllegalArgumentException.class, () -> x.rake(9));
        Check.throwsOnly("below", IllegalArgumentException.class, () -> x.rake(1));
        Check.same("still most", x.count(0), 8);
    }

    private static void holesAreNumberedFromTheMiddle() {
        Doc.of(TERMS, "numbered from 0 at the middle");
        for (int holes = 2; holes <= 8; holes++) {
            DuctRake x = new DuctRake();
            x.rake(holes);
            for (int k = 1; k < holes; k++) {
                Check.holds(k + " of " + holes + " is further out", x.hole(k, 0) > x.hole(k - 1, 0));
            }
        }
    }

    private static void distancesOfTheSmallestAndTheGreatest() {
        Doc.of(TERMS, "The duct is divided into as many rings of equal areas; the hole k of n is at the distance from "
            + "the middle that is the whole root of: the radius times the radius times (2 k and 1), divided by 2 n.");
        distances(50, 25, 43); // 625, 1875
        distances(500, 250, 433); // 62500, 187500
        distances(50, 12, 21, 27, 33, 37, 41, 45, 48); // 156, 468, 781, 1093, 1406, 1718, 2031, 2343
        // 15625, 46875, 78125, 109375, 140625, 171875, 203125, 234375
        distances(500, 125, 216, 279, 330, 375, 414, 450, 484);
    }

    private static void distances(int radius, int... due) {
        for (int k = 0; k < due.length; k++) {
            distance(radius, due.length, k, due[k]);
        }
    }

    private static void trueSpeedAtLeastAndMostSettings() {
        Doc.of(FLOW, "The true speed at the distance r is: setting 0, less (setting 0 times setting 1 times r, divided "
            + "by 100 times the radius), plus (setting 2 times r, divided by the radius)");
        speeds(50, 0, 0, 0, 0, 0);
        speeds(50, 0, 100, 0, 0, 0);
        speeds(50, 0, 100, 2000, 1000, 1720); // 2000 times 25, and 43, divided by 50
        speeds(50, 20000, 0, 0, 20000, 20000);
        speeds(50, 20000, 100, 0, 10000, 2800); // less 10000, and 17200
        speeds(50, 20000, 100, 2000, 11000, 4520);
        speeds(500, 20000, 0, 2000, 21000, 21732); // 2000 times 250, and 433, divided by 500
        speeds(500, 20000, 100, 0, 10000, 2680); // less 10000, and 17320
        DuctRake x = new DuctRake();
        x.radius(500);
        x.rake(8);
        x.set(0, 20000);
        x.set(1, 0);
        x.set(2, 2000);
        Check.same("the greatest speed of all", x.hole(7, 4), 21936); // 2000 times 484, divided by 500: 1936
        x.set(1, 100);
        x.set(2, 0);
        Check.same("next to the wall", x.hole(7, 4), 640); // 20000 times 100 times 484, divided by 50000: 19360
    }

    private static void speeds(int radius, int middle, int less, int swirl, int inner, int outer) {
        DuctRake x = new DuctRake();
        x.rake(2);
        x.radius(radius);
        x.set(0, middle);
        x.set(1, less);
        x.set(2, swirl);
        String flow = middle + ", " + less + ", " + swirl + " at " + radius;
        Check.same("inner speed of " + flow, x.hole(0, 4), inner);
        Check.same("outer speed of " + flow, x.hole(1, 4), outer);
    }

    private static void partsOfTheSpeedAreDividedByThemselves() {
        Doc.of(FLOW, ", each of the two divided by itself.");
        DuctRake x = new DuctRake();
        x.set(0, 1);
        x.set(1, 100);
        // At 35, 61, 79, 93 of 100 each part that is below 1 is nothing.
        int[][] due = {{0, 1, 1, 1, 1}, {1, 1, 1, 1, 1}, {2, 1, 2, 2, 2}, {3, 2, 2, 3, 3}};
        for (int[] row : due) {
            x.set(2, row[0]);
            for (int k = 0; k < 4; k++) {
                Check.same("speed " + k + ", swirl " + row[0], x.hole(k, 4), row[k + 1]);
            }
        }
        // 8000 less 1: 8000 times 1 times 35, divided by 10000, is 28.
        x.set(0, 8000);
        x.set(1, 1);
        x.set(2, 2);
        Check.same("28 less, 0 more", x.hole(0, 4), 7972);
        x.set(0, 8001);
        Check.same("28.0035 less, 0.7 more", x.hole(0, 4), 7973);
    }

    private static void trueHead() {
        Doc.of(FLOW, "The true head at a hole is its true speed times itself, divided by 10000.");
        int[][] due = {{0, 0}, {1, 0}, {99, 0}, {100, 1}, {141, 1}, {142, 2}, {995, 99}, {1000, 100}, {19999, 39996},
            {20000, 40000}};
        for (int[] row : due) {
            Check.same("true head of the speed " + row[0], even(row[0]).hole(3, 5), row[1]);
        }
        DuctRake x = even(20000);
        x.set(2, 2000);
        x.radius(500);
        x.rake(8);
        Check.same("the greatest head of all", x.hole(7, 5), 48118); // 21936 times itself is 481188096
    }

    private static void passes() {
        Doc.of(FLOW, "A hole passes 0 to 100 hundredths of the head;");
        DuctRake x = even(1000);
        int[] heads = {0, 1, 50, 99, 100};
        for (int passes : heads) {
            x.block(3, passes);
            Check.same("passes", x.hole(3, 1), passes);
            Check.same("felt of 100 by one that passes " + passes, x.hole(3, 6), passes);
        }
        Check.throwsOnly("below", IllegalArgumentException.class, () -> x.block(3, -1));
        Check.throwsOnly("above", IllegalArgumentException.class, () -> x.block(3, 101));
        Check.same("it is left", x.hole(3, 1), 100);
    }

    private static void leaks() {
        Doc.of(FLOW, "its tube leaks 0 to 100 hundredths of what passes;");
        DuctRake x = even(1000);
        for (int leak : new int[] {0, 1, 50, 99, 100}) {
            x.leak(0, leak);
            Check.same("leaks", x.hole(0, 2), leak);
            Check.same("felt of 100 by one that leaks " + leak, x.hole(0, 6), 100 - leak);
        }
        Check.throwsOnly("below", IllegalArgumentException.class, () -> x.leak(0, -1));
        Check.throwsOnly("above", IllegalArgumentException.class, () -> x.leak(0, 101));
        Check.same("it is left", x.hole(0, 2), 100);
    }

    private static void latestTest() {
        Doc.of(FLOW, "its latest test was passed (1) or failed (2), or there is none (0).");
        DuctRake x = new DuctRake();
        Check.same("none", x.hole(1, 3), 0);
        x.test(1);
        Check.same("passed", x.hole(1, 3), 1);
        x.leak(1, 6);
        Check.same("the latest was passed", x.hole(1, 3), 1);
        x.test(1);
        Check.same("failed", x.hole(1, 3), 2);
        x.leak(1, 5);
        x.test(1);
        Check.same("the latest is passed again", x.hole(1, 3), 1);
        x.clean(1);
        Check.same("none again", x.hole(1, 3), 0);
        Check.same("none of another hole", x.hole(0, 3), 0);
    }

    private static void holesAtFirst() {
        Doc.of(FLOW, "At first holes pass 100, leak 0, and have no test.");
        DuctRake x = new DuctRake();
        clear(x);
        x.rake(8);
        clear(x);
        x.rake(2);
        clear(x);
    }

    private static void clear(DuctRake x) {
        for (int k = 0; k < x.count(0); k++) {
            Check.same("passes", x.hole(k, 1), 100);
            Check.same("leaks", x.hole(k, 2), 0);
            Check.same("test", x.hole(k, 3), 0);
        }
    }

    private static void passedIsRoundedDown() {
        Doc.of(FLOW, "What is passed is the true head times what passes, divided by 100;");
        DuctRake x = even(100);
        int[][] ofOne = {{100, 1}, {99, 0}, {1, 0}, {0, 0}};
        for (int[] row : ofOne) {
            x.block(0, row[0]);
            Check.same("felt of 1 by one that passes " + row[0], x.hole(0, 6), row[1]);
        }
        x.set(0, 995);
        int[][] ofNinetyNine = {{100, 99}, {99, 98}, {2, 1}, {1, 0}, {0, 0}};
        for (int[] row : ofNinetyNine) {
            x.block(0, row[0]);
            Check.same("felt of 99 by one that passes " + row[0], x.hole(0, 6), row[1]);
        }
        x.set(0, 0);
        x.block(0, 100);
        Check.same("felt of 0", x.hole(0, 6), 0);
    }

    private static void leakIsOfWhatPasses() {
        Doc.of(FLOW, "the head that is felt is this, less (this times the leak, divided by 100).");
        DuctRake x = even(100);
        int[][] ofOne = {{0, 1}, {1, 1}, {99, 1}, {100, 0}};
        for (int[] row : ofOne) {
            x.leak(0, row[0]);
            Check.same("felt of 1 by one that leaks " + row[0], x.hole(0, 6), row[1]);
        }
        x.set(0, 174);
        x.block(0, 50);
        x.leak(0, 50);
        // A head of 3: 1 is passed, and nothing of it leaks.
        Check.same("felt of 3", x.hole(0, 6), 1);
        x.block(0, 0);
        x.leak(0, 100);
        Check.same("felt of nothing", x.hole(0, 6), 0);
        x.set(0, 20000);
        x.block(0, 99);
        x.leak(0, 99);
        // A head of 40000: 39600 is passed, 39204 of it leak.
        Check.same("felt of 40000", x.hole(0, 6), 396);
    }

    private DuctEdges() {
    }
}
