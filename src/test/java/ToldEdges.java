/** The edges that Terms names for readings, for holes that are suspect, and for the flow that is told. */
final class ToldEdges {
    private static final String READINGS = "Readings";
    private static final String FLOW = "The flow that is told";
    private static final Class<IndexOutOfBoundsException> INDEX = IndexOutOfBoundsException.class;

    static void run() {
        noReading();
        twelveReadingsAndOneMore();
        twelveLoadedAndOneMore();
        readingHasAHeadForEachHole();
        readingHasTheRadiusOfThen();
        readingsCountByTheirHeads();
        readingsCountByTheirRadius();
        meanIsRoundedDown();
        meanOfOneAndOfTwelve();
        meanLeavesOutWhatDoesNotCount();
        noReadingCounts();
        meanIsZero();
        meanIsJustEnough();
        shareOfNothingAndOfAll();
        greatestMeanIsOfSuspectHolesToo();
        latestTestWasFailed();
        firstReasonIsTold();
        trusted();
        toldSpeedOfTheLeastAndTheGreatest();
        mendedByBothSides();
        mendedByTheNearest();
        mendedByOneSide();
        noHoleIsTrusted();
        flowOfARing();
        wholeOfRoundedRings();
        halvesOfEvenRakes();
        halvesOfOddRakes();
    }

    /** Readings of a rake with as many holes as there are heads. */
    private static DuctRake with(String... readings) {
        DuctRake x = new DuctRake();
        x.rake(readings[0].split(",").length);
        for (String reading : readings) {
            Check.load(x, reading);
        }
        return x;
    }

    private static void reasons(String when, DuctRake x, int... due) {
        for (int k = 0; k < due.length; k++) {
            Check.same(when + ": why hole " + k, x.hole(k, 8), due[k]);
        }
    }

    private static void told(String when, DuctRake x, int... due) {
        for (int k = 0; k < due.length; k++) {
            Check.same(when + ": told speed of " + k, x.hole(k, 9), due[k]);
        }
    }

    private static void fail(DuctRake x, int hole) {
        x.leak(hole, 100);
        x.test(hole);
    }

    private static void noReading() {
        Doc.of(READINGS, "At most 12 readings are kept, numbered from 0, the oldest first;");
        DuctRake x = new DuctRake();
        Check.same("kept", x.count(2), 0);
        Check.throwsOnly("reading 0 of none", INDEX, () -> x.reading(0, 8));
        Check.throwsOnly("drop of none", INDEX, () -> x.drop(0));
        x.read();
        Check.same("one has the number 0", x.reading(0, 8), 4);
        Check.throwsOnly("reading 1 of one", INDEX, () -> x.reading(1, 8));
    }

    private static void twelveReadingsAndOneMore() {
        Doc.of(READINGS, "if one more is taken, the oldest one is dropped.");
        DuctRake x = new DuctRake();
        x.set(1, 0);
        for (int i = 0; i < 12; i++) {
            x.set(0, 1000 + 1000 * i);
            Check.same("kept", x.read(), i + 1);
        }
        for (int i = 0; i < 12; i++) {
            Check.same("the oldest first: " + i, x.reading(i, 0), 100 * (i + 1) * (i + 1));
        }
        Check.throwsOnly("reading 12 of 12", INDEX, () -> x.reading(12, 0));
        x.set(0, 13000);
        Check.same("a thirteenth", x.read(), 12);
        for (int i = 0; i < 12; i++) {
            Check.same("the oldest is dropped: " + i, x.reading(i, 0), 100 * (i + 2) * (i + 2));
        }
        Check.throwsOnly("reading 12 of 13", INDEX, () -> x.reading(12, 0));
    }

    private static void twelveLoadedAndOneMore() {
        Doc.of(READINGS, "At most 12 readings are kept");
        DuctRake x = new DuctRake();
        // Of one to eight heads in turn: nothing of a dropped reading is left in the place of a shorter one.
        String[] texts = {"1", "2,2", "3,3,3", "4,4,4,4", "5,5,5,5,5", "6,6,6,6,6,6", "7,7,7,7,7,7,7", "8,8,8,8,8,8,8,8"};
        for (int i = 0; i < 30; i++) {
            x.radius(100 + i);
            Check.load(x, texts[i % 8]);
            Check.same("kept", x.count(2), Math.min(i + 1, 12));
        }
        for (int i = 0; i < 12; i++) {
            int size = (i + 18) % 8 + 1;
            Check.same("heads of " + i, x.reading(i, 8), size);
            Check.same("radius of " + i, x.reading(i, 9), 118 + i);
            for (int k = 0; k < 8; k++) {
                Check.same("head " + k + " of " + i, x.reading(i, k), k < size ? size : -1);
            }
        }
    }

    private static void readingHasAHeadForEachHole() {
        Doc.of(READINGS, "A reading has a head for each hole,");
        DuctRake x = new DuctRake();
        x.set(1, 0);
        for (int holes = 2; holes <= 8; holes++) {
            x.rake(holes);
            x.block(holes - 1, 0);
            int reading = x.read() - 1;
            Check.same("how many", x.reading(reading, 8), holes);
            for (int k = 0; k < 8; k++) {
                int due = k < holes - 1 ? 6400 : k == holes - 1 ? 0 : -1;
                Check.same("head " + k + " of " + holes, x.reading(reading, k), due);
            }
        }
    }

    private static void readingHasTheRadiusOfThen() {
        Doc.of(READINGS, "and the radius of then.");
        DuctRake x = new DuctRake();
        x.radius(50);
        x.read();
        x.radius(500);
        x.read();
        Check.load(x, "1");
        x.radius(77);
        Check.same("least", x.reading(0, 9), 50);
        Check.same("most", x.reading(1, 9), 500);
        Check.same("of a text", x.reading(2, 9), 500);
    }

    private static void readingsCountByTheirHeads() {
        Doc.of(READINGS, "Readings count if they have as many heads as the rake has holes,");
        DuctRake x = new DuctRake();
        for (String text : new String[] {"1", "1,2", "1,2,3", "1,2,3,4", "1,2,3,4,5,6,7", "1,2,3,4,5,6,7,8"}) {
            Check.load(x, text);
        }
        int[][] due = {{2, 1}, {3, 1}, {4, 1}, {5, 0}, {6, 0}, {7, 1}, {8, 1}};
        for (int[] row : due) {
            x.rake(row[0]);
            Check.same("count for " + row[0], x.count(3), row[1]);
            for (int i = 0; i < 6; i++) {
                Check.same("reading " + i, x.reading(i, 10), x.reading(i, 8) == row[0] ? 1 : 0);
            }
        }
    }

    private static void readingsCountByTheirRadius() {
        Doc.of(READINGS, "and the radius of now.");
        DuctRake x = new DuctRake();
        for (int radius : new int[] {50, 51, 99, 100, 101, 499, 500, 500}) {
            x.radius(radius);
            x.read();
        }
        Check.same("two at 500", x.count(3), 2);
        for (int radius : new int[] {50, 51, 99, 100, 101, 499}) {
            x.radius(radius);
            Check.same("one at " + radius, x.count(3), 1);
        }
        x.radius(498);
        Check.same("none at 498", x.count(3), 0);
        x.radius(52);
        Check.same("none at 52", x.count(3), 0);
        x.rake(3);
        x.radius(500);
        Check.same("the radius alone is not enough", x.count(3), 0);
    }

    private static void meanIsRoundedDown() {
        Doc.of(READINGS, "The mean of a hole is the sum of its heads in all readings that count, "
            + "divided by how many there are.");
        DuctRake x = with("0,1,99999,5");
        Check.load(x, "1,1,99998,6");
        Check.load(x, "1,1,99998,6");
        int[] due = {0, 1, 99998, 5}; // 2, 3, 299995, 17 divided by 3
        for (int k = 0; k < 4; k++) {
            Check.same("mean " + k, x.hole(k, 7), due[k]);
        }
    }

    private static void meanOfOneAndOfTwelve() {
        Doc.of(READINGS, "divided by how many there are.");
        DuctRake x = with("99999,11");
        Check.same("of one", x.hole(0, 7), 99999);
        Check.same("of one", x.hole(1, 7), 11);
        for (int i = 0; i < 10; i++) {
            Check.load(x, "99999,0");
        }
        Check.same("11 divided by 11", x.hole(1, 7), 1);
        Check.load(x, "99999,0");
        Check.same("of twelve greatest heads", x.hole(0, 7), 99999);
        Check.same("11 divided by 12", x.hole(1, 7), 0);
        Check.load(x, "99999,12");
        Check.same("the first one is dropped", x.hole(1, 7), 1);
    }

    private static void meanLeavesOutWhatDoesNotCount() {
        Doc.of(READINGS, "in all readings that count");
        DuctRake x = with("10,20");
        Check.load(x, "1000");
        Check.load(x, "1000,1000,1000");
        x.radius(101);
        Check.load(x, "2000,2000");
        x.radius(100);
        Check.load(x, "20,40");
        Check.same("mean of 10, 20", x.hole(0, 7), 15);
        Check.same("mean of 20, 40", x.hole(1, 7), 30);
    }

    private static void noReadingCounts() {
        Doc.of(READINGS, "A hole is suspect, for the first of these reasons that is so: 1: no reading counts;");
        DuctRake x = new DuctRake();
        reasons("no reading", x, 1, 1, 1, 1);
        Check.load(x, "100,100,100");
        Check.load(x, "100,100,100,100,100");
        reasons("too few heads, too many", x, 1, 1, 1, 1);
        x.radius(101);
        Check.load(x, "100,100,100,100");
        x.radius(100);
        reasons("another radius", x, 1, 1, 1, 1);
        x.radius(101);
        reasons("one counts", x, 0, 0, 0, 0);
        x.drop(2);
        reasons("it is dropped", x, 1, 1, 1, 1);
    }

    private static void meanIsZero() {
        Doc.of(READINGS, "2: its mean is 0;");
        DuctRake x = with("0,1,1,1");
        reasons("0 and 1", x, 2, 0, 0, 0);
        x.set(3, 0);
        reasons("0 whatever setting 3 is", x, 2, 0, 0, 0);
        Check.load(x, "1,0,1,2");
        reasons("1 divided by 2 is 0", x, 2, 2, 0, 0);
        x.drop(0);
        x.drop(0);
        Check.load(x, "0,0,0,0");
        reasons("all", x, 2, 2, 2, 2);
    }

    private static void meanIsJustEnough() {
        Doc.of(READINGS, "3: 100 times its mean is less than setting 3 times the greatest mean of all holes;");
        reasons("half of 200", with("200,100,99,101"), 0, 0, 3, 0);
        reasons("half of 199", with("100,199,99,1"), 0, 0, 3, 3);
        reasons("half of 99999", with("50000,49999,0,99999"), 0, 3, 2, 0);
        DuctRake x = with("99999,1000,999,1");
        x.set(3, 1);
        reasons("a hundredth of 99999", x, 0, 0, 3, 3);
        x.set(3, 99);
        x.drop(0);
        Check.load(x, "100,99,98,100");
        reasons("99 hundredths", x, 0, 0, 3, 0);
    }

    private static void shareOfNothingAndOfAll() {
        Doc.of(READINGS, "less than setting 3 times the greatest mean of all holes");
        DuctRake x = with("99999,1,0,99998");
        x.set(3, 0);
        reasons("setting 3 is 0", x, 0, 0, 2, 0);
        x.set(3, 100);
        reasons("setting 3 is 100", x, 0, 3, 2, 3);
        x.drop(0);
        Check.load(x, "7,7,7,7");
        reasons("all are the greatest", x, 0, 0, 0, 0);
    }

    private static void greatestMeanIsOfSuspectHolesToo() {
        Doc.of(READINGS, "the greatest mean of all holes");
        DuctRake x = with("100,100,100,201");
        fail(x, 3);
        reasons("201 of one that failed", x, 3, 3, 3, 4);
        x.drop(0);
        Check.load(x, "100,100,100,200");
        reasons("200 of one that failed", x, 0, 0, 0, 4);
    }

    private static void latestTestWasFailed() {
        Doc.of(READINGS, "4: its latest test was failed.");
        DuctRake x = with("100,100,100,100");
        x.test(0);
        fail(x, 3);
        x.leak(1, 100);
        reasons("passed, leaks without a test, failed", x, 0, 0, 0, 4);
        x.leak(3, 0);
        reasons("mended, without a test", x, 0, 0, 0, 4);
        x.test(3);
        reasons("passed after that", x, 0, 0, 0, 0);
        fail(x, 0);
        x.clean(0);
        reasons("cleaned", x, 0, 0, 0, 0);
    }

    private static void firstReasonIsTold() {
        Doc.of(READINGS, "for the first of these reasons that is so");
        DuctRake x = new DuctRake();
        for (int k = 0; k < 4; k++) {
            fail(x, k);
        }
        reasons("1 before 4", x, 1, 1, 1, 1);
        Check.load(x, "0,49,50,100");
        reasons("2 before 3 before 4", x, 2, 3, 4, 4);
        x.set(3, 100);
        reasons("2 before 3 of all", x, 2, 3, 3, 4);
    }

    private static void trusted() {
        Doc.of(READINGS, "Otherwise it is trusted (0).");
        DuctRake x = with("1,1");
        reasons("the least that can be trusted", x, 0, 0);
        Check.same("trusted holes", x.count(4), 2);
        told("the least", x, 100, 100);
    }

    private static void toldSpeedOfTheLeastAndTheGreatest() {
        Doc.of(READINGS, "The told speed of a trusted hole is the whole root of 10000 times its mean.");
        DuctRake x = with("99999,1,2,156");
        x.set(3, 0);
        told("the greatest, the least", x, 31622, 100, 141, 1248);
    }

    private static void mendedByBothSides() {
        Doc.of(READINGS, "That of a suspect hole is mended: the sum of the told speeds of the nearest trusted hole "
            + "further in and of the nearest one further out, divided by 2;");
        DuctRake x = with("1,0,2,0,4,0,99999");
        x.set(3, 0);
        // 241, 341 and 31822, divided by 2.
        told("one between two", x, 100, 120, 141, 170, 200, 15911, 31622);
        DuctRake failed = with("100,1,400,900");
        failed.set(3, 0);
        fail(failed, 1);
        told("its own mean does not matter", failed, 1000, 1500, 2000, 3000);
    }

    private static void mendedByTheNearest() {
        Doc.of(READINGS, "the nearest trusted hole further in and of the nearest one further out");
        DuctRake x = with("100,0,0,0,0,0,0,400");
        x.set(3, 0);
        told("six between the ends", x, 1000, 1500, 1500, 1500, 1500, 1500, 1500, 2000);
        DuctRake wide = with("900,100,0,0,400,1600");
        wide.set(3, 0);
        told("not those behind the nearest", wide, 3000, 1000, 1500, 1500, 2000, 4000);
    }

    private static void mendedByOneSide() {
        Doc.of(READINGS, "if there is only one of both, the told speed of that one.");
        told("none further in", with("0,400"), 2000, 2000);
        told("none further out", with("400,0"), 2000, 2000);
        told("one alone in the middle", with("0,0,0,400,0,0,0,0"), 2000, 2000, 2000, 2000, 2000, 2000, 2000, 2000);
        DuctRake x = with("0,0,1,2,0,0");
        told("the nearest of one side", x, 100, 100, 100, 141, 141, 141);
    }

    private static void noHoleIsTrusted() {
        Doc.of(READINGS, "There are no told speeds if no hole is trusted.");
        told("no reading", new DuctRake(), -1, -1, -1, -1);
        told("means of 0", with("0,0"), -1, -1);
        DuctRake x = with("100,200");
        fail(x, 1);
        told("one is left", x, 1000, 1000);
        fail(x, 0);
        told("both have failed", x, -1, -1);
        x.clean(0);
        told("one is back", x, 1000, 1000);
    }

    private static void flowOfARing() {
        Doc.of(FLOW, "The flow of a ring is the told speed of its hole times (the radius times the radius, "
            + "divided by 100), divided by how many holes there are.");
        ring(50, 2, 1, 1250); // 100 times 25, divided by 2
        ring(50, 8, 1, 312); // 2500 divided by 8
        ring(51, 8, 1, 325); // 2601 divided by 100 is 26
        ring(59, 3, 1, 1133); // 3481 divided by 100 is 34, 3400 divided by 3
        ring(499, 7, 2, 50155); // 249001 divided by 100 is 2490, 351090 divided by 7
        ring(500, 2, 99999, 39527500); // 31622 times 2500, divided by 2
        ring(500, 8, 99999, 9881875);
        Check.same("of no told speed", new DuctRake().hole(0, 10), -1);
    }

    private static void ring(int radius, int holes, int head, int due) {
        DuctRake x = new DuctRake();
        x.radius(radius);
        x.rake(holes);
        Check.load(x, (head + ",").repeat(holes - 1) + head);
        for (int k = 0; k < holes; k++) {
            Check.same("ring " + k + " of " + holes + " at " + radius, x.hole(k, 10), due);
        }
    }

    private static void wholeOfRoundedRings() {
        Doc.of(FLOW, "The whole is the sum of the flows of all rings;");
        DuctRake x = with("1,1,1");
        Check.same("three times 3333", x.flow(0), 9999);
        DuctRake most = new DuctRake();
        most.radius(500);
        most.rake(8);
        Check.load(most, "99999,99999,99999,99999,99999,99999,99999,99999");
        Check.same("the greatest of all", most.flow(0), 79055000);
        DuctRake two = new DuctRake();
        two.radius(50);
        two.rake(2);
        Check.load(two, "1,1");
        Check.same("the least of all", two.flow(0), 2500);
    }

    private static void halvesOfEvenRakes() {
        Doc.of(FLOW, "the inner half is that of the rings below half of the holes (rounded down), "
            + "the outer half that of all others.");
        halves("1,4", 5000, 10000);
        halves("1,4,9,16", 2500 + 5000, 7500 + 10000);
        halves("1,1,1,4,4,4", 3 * 1666, 3 * 3333);
        halves("1,1,1,1,4,4,4,4", 4 * 1250, 4 * 2500);
    }

    private static void halvesOfOddRakes() {
        Doc.of(FLOW, "below half of the holes (rounded down), the outer half that of all others.");
        halves("1,4,9", 3333, 6666 + 10000);
        halves("1,1,4,4,4", 2 * 2000, 3 * 4000);
        halves("1,1,1,4,4,4,4", 3 * 1428, 4 * 2857);
    }

    private static void halves(String reading, int inner, int outer) {
        DuctRake x = with(reading);
        x.set(3, 0);
        Check.same("inner half of " + reading, x.flow(1), inner);
        Check.same("outer half of " + reading, x.flow(2), outer);
        Check.same("whole of " + reading, x.flow(0), inner + outer);
    }

    private ToldEdges() {
    }
}
