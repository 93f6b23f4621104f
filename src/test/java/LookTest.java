/** Promises 18 to 22: looks at holes, readings, flows, counts and settings. */
public final class LookTest {
    private static final Class<IllegalArgumentException> ARGUMENT = IllegalArgumentException.class;
    private static final Class<IndexOutOfBoundsException> INDEX = IndexOutOfBoundsException.class;

    public static void main(String[] args) {
        holeOutOfRange();
        trueFlow();
        means();
        reasons();
        reasonsInTheirOrder();
        greatestMeanIsOfAllHoles();
        toldSpeeds();
        toldSpeedsAtTheEnds();
        noTrustedHole();
        reading();
        flow();
        flowOfOddRake();
        count();
        setting();
        Check.end();
    }

    private static void holeOutOfRange() {
        DuctRake x = new DuctRake();
        x.rake(3);
        for (int hole : new int[] {-1, 3, 8, Integer.MIN_VALUE, Integer.MAX_VALUE}) {
            Check.refused("hole " + hole, x, INDEX, () -> x.hole(hole, 0));
            Check.refused("hole, both wrong", x, INDEX, () -> x.hole(hole, 12));
        }
        for (int what : new int[] {-1, 12, Integer.MIN_VALUE, Integer.MAX_VALUE}) {
            Check.refused("hole's " + what, x, ARGUMENT, () -> x.hole(2, what));
        }
        for (int what = 0; what <= 11; what++) {
            x.hole(2, what);
        }
        Check.same("looks save nothing", x.count(13), 1);
    }

    private static void trueFlow() {
        DuctRake x = new DuctRake();
        x.radius(73);
        x.set(0, 12345);
        x.set(1, 37);
        x.set(2, 1999);
        // Distances: roots of 666, 1998, 3330, 4663 (5329 times 1, 3, 5, 7, divided by 8).
        int[] distances = {25, 44, 57, 68};
        // 12345 - 12345 * 37 * r / 7300 + 1999 * r / 73
        int[] speeds = {12345 - 1564 + 684, 12345 - 2753 + 1204, 12345 - 3566 + 1560, 12345 - 4254 + 1862};
        for (int k = 0; k < 4; k++) {
            Check.same("distance " + k, x.hole(k, 0), distances[k]);
            Check.same("speed " + k, x.hole(k, 4), speeds[k]);
            Check.same("head " + k, x.hole(k, 5), (long) speeds[k] * speeds[k] / 10000);
        }
        x.set(0, 20000);
        x.set(1, 0);
        x.set(2, 2000);
        x.radius(500);
        x.rake(8);
        Check.same("greatest distance", x.hole(7, 0), 484);
        Check.same("greatest speed", x.hole(7, 4), 21936);
        Check.same("greatest head", x.hole(7, 5), 48118);
        Check.same("greatest felt", x.hole(7, 6), 48118);
        x.block(7, 99);
        x.leak(7, 99);
        // 47636 passed, 47159 leaked
        Check.same("hardly felt", x.hole(7, 6), 477);
        x.set(1, 100);
        x.set(2, 0);
        Check.same("speed at the wall", x.hole(7, 4), 20000 - 19360);
    }

    private static void means() {
        DuctRake x = new DuctRake();
        Check.same("no mean", x.hole(0, 7), -1);
        Check.load(x, "1,2,3,99999");
        Check.load(x, "2,2,4,99999");
        Check.load(x, "50,50");
        x.radius(200);
        Check.load(x, "60,60,60,60");
        x.radius(100);
        int[] due = {1, 2, 3, 99999};
        for (int k = 0; k < 4; k++) {
            Check.same("mean " + k, x.hole(k, 7), due[k]);
        }
        x.rake(2);
        Check.same("mean of another rake", x.hole(1, 7), 50);
        x.rake(4);
        x.radius(200);
        Check.same("mean at another radius", x.hole(3, 7), 60);
        x.radius(300);
        Check.same("mean if none counts", x.hole(3, 7), -1);
        x.radius(200);
        Check.load(x, "0,0,0,0");
        Check.same("mean of 60 and 0", x.hole(3, 7), 30);
    }

    private static void reasons() {
        DuctRake x = new DuctRake();
        Check.same("1: no reading", x.hole(0, 8), 1);
        Check.load(x, "900,0,1600,799");
        Check.same("0", x.hole(0, 8), 0);
        Check.same("2: a mean of 0", x.hole(1, 8), 2);
        Check.same("3: less than half", x.hole(3, 8), 3);
        x.set(3, 49);
        Check.same("not less than 49 hundredths", x.hole(3, 8), 0);
        x.set(3, 57);
        Check.same("56.25 hundredths", x.hole(0, 8), 3);
        x.set(3, 0);
        Check.same("2 holds whatever setting 3 is", x.hole(1, 8), 2);
        x.set(3, 100);
        Check.same("the greatest is trusted", x.hole(2, 8), 0);
        x.set(3, 50);
        x.drop(0);
        Check.load(x, "900,1,1600,800");
        Check.same("just half", x.hole(3, 8), 0);
        x.leak(3, 6);
        Check.same("a leak alone", x.hole(3, 8), 0);
        x.test(3);
        Check.same("4: failed", x.hole(3, 8), 4);
        x.leak(3, 0);
        Check.same("4 until the next test", x.hole(3, 8), 4);
        x.test(3);
        Check.same("passed again", x.hole(3, 8), 0);
        x.leak(3, 6);
        x.test(3);
        x.clean(3);
        Check.same("cleaned", x.hole(3, 8), 0);
    }

    private static void reasonsInTheirOrder() {
        DuctRake x = new DuctRake();
        for (int k = 0; k < 4; k++) {
            x.leak(k, 100);
            x.test(k);
        }
        for (int k = 0; k < 4; k++) {
            Check.same("1 before 4", x.hole(k, 8), 1);
        }
        Check.load(x, "0,1,100,50");
        int[] due = {2, 3, 4, 4};
        for (int k = 0; k < 4; k++) {
            Check.same("2 and 3 before 4", x.hole(k, 8), due[k]);
        }
        int[] counts = {0, 0, 1, 1, 2};
        for (int what = 4; what <= 8; what++) {
            Check.same("count " + what, x.count(what), counts[what - 4]);
        }
    }

    private static void greatestMeanIsOfAllHoles() {
        DuctRake x = new DuctRake();
        Check.load(x, "10000,100,100,100");
        x.leak(0, 50);
        x.test(0);
        Check.same("failed, and greatest", x.hole(0, 8), 4);
        Check.same("low beside it", x.hole(1, 8), 3);
        Check.same("none trusted", x.count(4), 0);
        Check.same("none told", x.flow(0), -1);
    }

    private static void toldSpeeds() {
        DuctRake x = new DuctRake();
        Check.load(x, "900,0,1600,800");
        int[] due = {3000, 3500, 4000, 2828};
        for (int k = 0; k < 4; k++) {
            Check.same("told " + k, x.hole(k, 9), due[k]);
            Check.same("ring " + k, x.hole(k, 10), due[k] * 100 / 4);
        }
        x.drop(0);
        x.set(3, 0);
        x.rake(6);
        Check.load(x, "5,0,0,100,0,99999");
        int[] wide = {223, 611, 611, 1000, 16311, 31622};
        for (int k = 0; k < 6; k++) {
            Check.same("told of six " + k, x.hole(k, 9), wide[k]);
            Check.same("ring of six " + k, x.hole(k, 10), wide[k] * 100 / 6);
        }
    }

    private static void toldSpeedsAtTheEnds() {
        DuctRake x = new DuctRake();
        Check.load(x, "0,0,400,0");
        for (int k = 0; k < 4; k++) {
            Check.same("told by one " + k, x.hole(k, 9), 2000);
        }
        x.drop(0);
        x.set(3, 0);
        Check.load(x, "0,400,900,0");
        int[] due = {2000, 2000, 3000, 3000};
        for (int k = 0; k < 4; k++) {
            Check.same("told by the nearest " + k, x.hole(k, 9), due[k]);
        }
        x.drop(0);
        Check.load(x, "1,1,1,1");
        Check.same("least of the told", x.hole(0, 9), 100);
    }

    private static void noTrustedHole() {
        DuctRake x = new DuctRake();
        Check.same("told", x.hole(0, 9), -1);
        Check.same("ring", x.hole(0, 10), -1);
        Check.load(x, "0,0,0,0");
        Check.same("mean", x.hole(0, 7), 0);
        Check.same("reason", x.hole(0, 8), 2);
        Check.same("told", x.hole(0, 9), -1);
        Check.same("ring", x.hole(0, 10), -1);
        for (int what = 0; what <= 2; what++) {
            Check.same("flow " + what, x.flow(what), -1);
        }
    }

    private static void reading() {
        DuctRake x = new DuctRake();
        Check.refused("reading of none", x, INDEX, () -> x.reading(0, 0));
        Check.load(x, "1,2,3,4,5,6,7,8");
        Check.load(x, "9");
        Check.load(x, "9,8,7,6");
        for (int reading : new int[] {-1, 3, 12, Integer.MIN_VALUE, Integer.MAX_VALUE}) {
            Check.refused("reading " + reading, x, INDEX, () -> x.reading(reading, 0));
            Check.refused("reading, both wrong", x, INDEX, () -> x.reading(reading, 11));
        }
        for (int what : new int[] {-1, 11, Integer.MIN_VALUE, Integer.MAX_VALUE}) {
            Check.refused("reading's " + what, x, ARGUMENT, () -> x.reading(0, what));
        }
        int[][] due = {{1, 2, 3, 4, 5, 6, 7, 8, 8, 100, 0}, {9, -1, -1, -1, -1, -1, -1, -1, 1, 100, 0},
            {9, 8, 7, 6, -1, -1, -1, -1, 4, 100, 1}};
        for (int i = 0; i < due.length; i++) {
            for (int what = 0; what < 11; what++) {
                Check.same("reading " + i + ", " + what, x.reading(i, what), due[i][what]);
            }
        }
        x.radius(101);
        Check.same("counts at another radius", x.reading(2, 10), 0);
        Check.same("radius of then", x.reading(2, 9), 100);
        x.rake(8);
        x.radius(100);
        Check.same("counts for a rake of 8", x.reading(0, 10), 1);
    }

    private static void flow() {
        DuctRake x = new DuctRake();
        for (int what : new int[] {-1, 4, Integer.MIN_VALUE, Integer.MAX_VALUE}) {
            Check.refused("flow " + what, x, ARGUMENT, () -> x.flow(what));
        }
        Check.same("whole by true speeds, without readings", x.flow(3), 585600);
        Check.load(x, "900,0,1600,800");
        Check.same("whole", x.flow(0), 75000 + 87500 + 100000 + 70700);
        Check.same("inner", x.flow(1), 75000 + 87500);
        Check.same("outer", x.flow(2), 100000 + 70700);
        Check.same("whole by true speeds", x.flow(3), 585600);
        x.radius(99);
        x.set(1, 0);
        Check.load(x, "900,0,1600,800");
        // 98 is 9801 divided by 100
        Check.same("whole at 99", x.flow(0), 73500 + 85750 + 98000 + 69286);
        Check.same("whole by true speeds at 99", x.flow(3), 8000 * 98);
        Check.same("not undoable", x.count(13), 4);
    }

    private static void flowOfOddRake() {
        DuctRake x = new DuctRake();
        x.rake(5);
        x.set(3, 0);
        Check.load(x, "100,400,900,1600,2500");
        Check.same("whole", x.flow(0), 300000);
        Check.same("inner", x.flow(1), 60000);
        Check.same("outer", x.flow(2), 240000);
        x.rake(3);
        Check.load(x, "100,100,100");
        // Each ring is rounded down by itself: 33333.
        Check.same("whole of three", x.flow(0), 99999);
        Check.same("inner of three", x.flow(1), 33333);
        Check.same("outer of three", x.flow(2), 66666);
    }

    private static void count() {
        DuctRake x = new DuctRake();
        for (int what : new int[] {-1, 14, Integer.MIN_VALUE, Integer.MAX_VALUE}) {
            Check.refused("count " + what, x, ARGUMENT, () -> x.count(what));
        }
        x.radius(60);
        x.rake(5);
        x.block(2, 0);
        x.block(3, 10);
        x.leak(1, 6);
        x.read();
        x.read();
        Check.load(x, "1,2");
        x.test(1);
        x.clean(4);
        int[] due = {5, 60, 3, 2, 2, 0, 1, 1, 1, 20, 15, 0, 3, 6};
        for (int what = 0; what < due.length; what++) {
            Check.same("count " + what, x.count(what), due[what]);
        }
        x.rake(2);
        int[] after = {2, 60, 3, 1, 2, 0, 0, 0, 0, 20, 15, 5, 3, 6};
        for (int what = 0; what < after.length; what++) {
            Check.same("count with two holes " + what, x.count(what), after[what]);
        }
    }

    private static void setting() {
        DuctRake x = new DuctRake();
        for (int setting : new int[] {-1, 5, Integer.MIN_VALUE, Integer.MAX_VALUE}) {
            Check.refused("setting " + setting, x, INDEX, () -> x.setting(setting));
        }
        for (int i = 0; i < 5; i++) {
            x.set(i, 11 + i);
        }
        for (int i = 0; i < 5; i++) {
            Check.same("setting " + i, x.setting(i), 11 + i);
        }
        Check.same("looks save nothing", x.count(13), 5);
    }
}
