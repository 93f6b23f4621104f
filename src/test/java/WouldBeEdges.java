/** The edges that promises 23 to 27 name: what would be, and how even the flow is. */
final class WouldBeEdges {
    private static final String RIGHT = "Promise 23";
    private static final String WORST = "Promise 24";
    private static final String RAKE = "Promise 25";
    private static final String FINE = "Promise 26";
    private static final String EVEN = "Promise 27";
    private static final Class<IllegalArgumentException> ARGUMENT = IllegalArgumentException.class;
    private static final Class<IndexOutOfBoundsException> INDEX = IndexOutOfBoundsException.class;

    static void run() {
        ifRightOfTheTrueHead();
        ifRightMakesOthersSuspect();
        ifRightMakesOthersTrusted();
        ifRightWithAPassedTest();
        ifRightWithoutAReading();
        ifRightWithoutATrustedHole();
        ifRightOfFirstAndLastHole();
        ifRightOfNoHole();
        worstIsWithoutSign();
        worstOfSeveral();
        worstLeavesOutNone();
        worstCanBeTheLast();
        worstWithoutATrustedHole();
        ifRakeIsFlowOfThatRake();
        ifRakeOfLeastAndMost();
        ifRakeOutOfRange();
        fineRakeJustWithin();
        fineRakeWithoutSign();
        fineRakeOfNothingAndOfMost();
        fineRakeOutOfRange();
        evennessOfLeastAndGreatest();
        evennessOfNone();
        Doc.noEdge(RIGHT, "Tells the whole if a hole was right.");
        Doc.noEdge(WORST, "Finds the hole that matters most.");
        Doc.noEdge(RAKE, "Tells the whole by the true speeds of another rake.");
        Doc.noEdge(FINE, "Finds a rake that is fine enough.");
        Doc.noEdge(EVEN, "Returns how even the flow is.");
    }

    /** A true head of 6400, a true speed of 8000, at each hole; this reading alone. */
    private static DuctRake even(String reading) {
        DuctRake x = new DuctRake();
        x.set(1, 0);
        x.rake(reading.split(",").length);
        Check.load(x, reading);
        return x;
    }

    private static void fail(DuctRake x, int hole) {
        x.leak(hole, 100);
        x.test(hole);
    }

    private static void ifRightOfTheTrueHead() {
        Doc.of(RIGHT, "Returns the whole that would be told if the mean of this hole was its true head,");
        DuctRake x = even("6400,6400");
        Check.same("it is right already", x.ifRight(0), 800000);
        x.block(0, 0);
        Check.same("the true head, not what is felt", x.ifRight(0), 800000);
        DuctRake y = even("1600,1600");
        y.set(3, 0);
        Check.same("told", y.flow(0), 400000);
        Check.same("one is right", y.ifRight(1), 600000);
        Check.load(y, "1600,1600");
        Check.same("the mean is it, however many readings count", y.ifRight(1), 600000);
        DuctRake own = new DuctRake();
        own.rake(2);
        own.set(3, 0);
        Check.load(own, "1,1");
        // The true heads 4096 and 2754 of the speeds 6400 and 5248: told are 6400 and 5247.
        Check.same("its own true head", own.ifRight(0), (6400 + 100) * 50);
        Check.same("that of the other", own.ifRight(1), (100 + 5247) * 50);
    }

    private static void ifRightMakesOthersSuspect() {
        Doc.of(RIGHT, "(so other holes can become trusted or suspect by that);");
        DuctRake half = even("100,3200");
        Check.same("3200 is just half of 6400", half.ifRight(0), (8000 + 5656) * 50);
        DuctRake less = even("100,3199");
        Check.same("3199 is less", less.ifRight(0), 800000);
        less.set(3, 49);
        Check.same("but not than 49 hundredths", less.ifRight(0), (8000 + 5655) * 50);
        less.set(3, 100);
        Check.same("nor is the hole itself", less.ifRight(0), 800000);
    }

    private static void ifRightMakesOthersTrusted() {
        Doc.of(RIGHT, "(so other holes can become trusted");
        DuctRake just = even("99999,3200,6400");
        // 99999 is the greatest: the others are low beside it.
        Check.same("one is trusted", just.count(4), 1);
        int eight = 266666;
        Check.same("all are trusted if it is right", just.ifRight(0), 2 * eight + 5656 * 100 / 3);
        DuctRake less = even("99999,3199,6400");
        Check.same("two are trusted if it is right", less.ifRight(0), 3 * eight);
    }

    private static void ifRightWithAPassedTest() {
        Doc.of(RIGHT, "and its test was passed");
        DuctRake x = even("6400,6400");
        x.set(3, 0);
        fail(x, 0);
        fail(x, 1);
        Check.same("none is told", x.flow(0), -1);
        Check.same("one that failed is right", x.ifRight(0), 800000);
        Check.same("so is the other", x.ifRight(1), 800000);
        DuctRake y = even("100,1600");
        y.set(3, 0);
        fail(y, 1);
        Check.same("the other one stays failed", y.ifRight(0), 800000);
        Check.same("its own counts as passed", y.ifRight(1), (1000 + 8000) * 50);
        Check.same("its test is what it was", y.hole(1, 3), 2);
    }

    private static void ifRightWithoutAReading() {
        Doc.of(RIGHT, "NONE if no reading counts,");
        DuctRake x = new DuctRake();
        for (int k = 0; k < 4; k++) {
            Check.same("no reading", x.ifRight(k), -1);
        }
        Check.load(x, "100,100,100");
        Check.same("none of four heads", x.ifRight(0), -1);
        x.rake(3);
        Check.holds("one of three heads", x.ifRight(0) > 0);
        x.radius(101);
        Check.same("none at 101", x.ifRight(0), -1);
    }

    private static void ifRightWithoutATrustedHole() {
        Doc.of(RIGHT, "or no hole would be trusted.");
        DuctRake x = even("100,0");
        x.set(0, 0);
        Check.same("a true head of 0 beside a mean of 0", x.ifRight(0), -1);
        Check.same("a true head of 0 beside a mean of 100", x.ifRight(1), 100000);
        x.set(0, 99);
        Check.same("a speed of 99 has a head of 0", x.ifRight(0), -1);
        x.set(0, 100);
        Check.same("a speed of 100 has a head of 1", x.ifRight(0), 10000);
        DuctRake none = even("0,0");
        Check.same("none is trusted but the one that is right", none.ifRight(0), 800000);
        DuctRake failed = even("100,99999");
        fail(failed, 1);
        Check.same("low beside one that failed", failed.ifRight(0), -1);
        DuctRake just = even("100,12800");
        fail(just, 1);
        Check.same("just half of one that failed", just.ifRight(0), 800000);
        DuctRake less = even("100,12801");
        fail(less, 1);
        Check.same("less than half of it", less.ifRight(0), -1);
    }

    private static void ifRightOfFirstAndLastHole() {
        Doc.of(RIGHT, "`hole`: its number");
        for (int holes = 2; holes <= 8; holes++) {
            DuctRake x = even("0,".repeat(holes - 1) + "0");
            int whole = holes * (8000 * 100 / holes);
            Check.same("the first of " + holes, x.ifRight(0), whole);
            Check.same("the last of " + holes, x.ifRight(holes - 1), whole);
        }
    }

    private static void ifRightOfNoHole() {
        Doc.of(RIGHT, "Throws `IndexOutOfBoundsException` if there is no such hole");
        Trial.refused("ifRight(-1)", INDEX, x -> x.ifRight(-1));
        Trial.refused("ifRight behind the last", INDEX, x -> x.ifRight(x.count(0)));
        for (int hole : new int[] {8, Integer.MIN_VALUE, Integer.MAX_VALUE}) {
            Trial.refused("ifRight(" + hole + ")", INDEX, x -> x.ifRight(hole));
        }
    }

    private static void worstIsWithoutSign() {
        Doc.of(WORST, "Returns the hole for which ifRight() and the whole that is told differ most (without sign;");
        DuctRake more = even("25600,6400");
        more.set(3, 0);
        // Told are 16000 and 8000; the first one right makes the whole less.
        Check.same("less by the first", more.ifRight(0) - more.flow(0), -400000);
        Check.same("nothing by the second", more.ifRight(1) - more.flow(0), 0);
        Check.same("worst", more.worst(), 0);
        DuctRake both = even("6400,25600,100");
        both.set(3, 0);
        Check.same("less by the second", both.ifRight(1) - both.flow(0), -8000 * 100 / 3 - 1);
        Check.same("more by the third", both.ifRight(2) - both.flow(0), 7000 * 100 / 3);
        Check.same("the second matters most", both.worst(), 1);
        DuctRake other = even("6400,22500,100");
        other.set(3, 0);
        Check.same("as much by both", other.ifRight(1) - other.flow(0), -(500000 - 266666));
        Check.same("more by the third", other.ifRight(2) - other.flow(0), 266666 - 33333);
        Check.same("one less by the third", other.worst(), 1);
    }

    private static void worstOfSeveral() {
        Doc.of(WORST, "of several the lowest;");
        Check.same("no difference at all", even("6400,6400,6400,6400").worst(), 0);
        DuctRake x = even("6400,100,100,6400");
        x.set(3, 0);
        Check.same("the lowest of two", x.worst(), 1);
        DuctRake signs = even("4900,6400,8100,6400");
        signs.set(3, 0);
        Check.same("more by the first", signs.ifRight(0) - signs.flow(0), 25000);
        Check.same("less by the third", signs.ifRight(2) - signs.flow(0), -25000);
        Check.same("the lowest of both signs", signs.worst(), 0);
        DuctRake turned = even("6400,8100,6400,4900");
        turned.set(3, 0);
        Check.same("the lowest of both signs, turned", turned.worst(), 1);
    }

    private static void worstLeavesOutNone() {
        Doc.of(WORST, "holes for which ifRight() is NONE are left out),");
        DuctRake x = even("100,0");
        x.set(0, 0);
        Check.same("NONE by the first", x.ifRight(0), -1);
        Check.same("no difference by the second", x.ifRight(1), x.flow(0));
        Check.same("worst", x.worst(), 1);
        DuctRake last = even("0,0,100");
        last.set(0, 0);
        Check.same("NONE by the last", last.ifRight(2), -1);
        Check.same("of the others the lowest", last.worst(), 0);
    }

    private static void worstCanBeTheLast() {
        Doc.of(WORST, "differ most");
        for (int holes = 2; holes <= 8; holes++) {
            DuctRake x = even("6400,".repeat(holes - 1) + "100");
            x.set(3, 0);
            Check.same("worst of " + holes, x.worst(), holes - 1);
        }
    }

    private static void worstWithoutATrustedHole() {
        Doc.of(WORST, "NONE if no hole is trusted.");
        Check.same("no reading", new DuctRake().worst(), -1);
        DuctRake zero = even("0,0");
        Check.holds("ifRight tells something", zero.ifRight(0) > 0);
        Check.same("means of 0", zero.worst(), -1);
        DuctRake x = even("6400,6400");
        fail(x, 0);
        Check.same("one is trusted", x.worst(), 0);
        fail(x, 1);
        Check.same("both failed", x.worst(), -1);
    }

    private static void ifRakeIsFlowOfThatRake() {
        Doc.of(RAKE, "Returns flow(3), if the rake had so many holes.");
        int[] radii = {50, 99, 100, 500};
        int[][] flows = {{8000, 40, 0}, {20000, 100, 2000}, {20000, 0, 2000}, {1, 100, 3}, {0, 0, 0}};
        for (int radius : radii) {
            for (int[] flow : flows) {
                DuctRake x = new DuctRake();
                x.radius(radius);
                for (int setting = 0; setting < 3; setting++) {
                    x.set(setting, flow[setting]);
                }
                for (int holes = 2; holes <= 8; holes++) {
                    int would = x.ifRake(holes);
                    Check.same("as many as there are", x.ifRake(x.count(0)), x.flow(3));
                    x.rake(holes);
                    Check.same("flow(3) of " + holes + " at " + radius, x.flow(3), would);
                }
            }
        }
    }

    private static void ifRakeOfLeastAndMost() {
        Doc.of(RAKE, "`holes`: 2 to 8");
        DuctRake x = new DuctRake();
        // At 50 and 86: 6400 and 5248.
        Check.same("two", x.ifRake(2), 320000 + 262400);
        // At 25, 43, 55, 66, 75, 82, 90, 96; each times 100, divided by 8.
        int[] speeds = {7200, 6624, 6240, 5888, 5600, 5376, 5120, 4928};
        int sum = 0;
        for (int speed : speeds) {
            sum += speed * 100 / 8;
        }
        Check.same("eight", x.ifRake(8), sum);
        x.radius(500);
        x.set(0, 20000);
        x.set(1, 0);
        Check.same("the greatest even flow, two", x.ifRake(2), 50000000);
        Check.same("the greatest even flow, eight", x.ifRake(8), 50000000);
        x.set(0, 0);
        Check.same("no flow", x.ifRake(8), 0);
    }

    private static void ifRakeOutOfRange() {
        Doc.of(RAKE, "Throws `IllegalArgumentException` if holes is out of range");
        for (int holes : new int[] {1, 9, 0, -1, Integer.MIN_VALUE, Integer.MAX_VALUE}) {
            Trial.refused("ifRake(" + holes + ")", ARGUMENT, x -> x.ifRake(holes));
        }
    }

    private static void fineRakeJustWithin() {
        Doc.of(FINE, "Returns the fewest holes, 2 to 8, with which ifRake() differs from that of 8 holes by at most so "
            + "much");
        DuctRake x = new DuctRake();
        // 4800, 1600, 1600, 320, 2, 227, 0
        int[][] due = {{4801, 2}, {4800, 2}, {4799, 3}, {1600, 3}, {1599, 5}, {320, 5}, {319, 6}, {227, 6}, {226, 6},
            {2, 6}, {1, 8}, {0, 8}};
        for (int[] row : due) {
            Check.same("fineRake(" + row[0] + ")", x.fineRake(row[0]), row[1]);
        }
    }

    private static void fineRakeWithoutSign() {
        Doc.of(FINE, "(without sign).");
        DuctRake x = new DuctRake();
        Check.same("two holes tell less", x.ifRake(2) - x.ifRake(8), -4800);
        Check.same("five holes tell more", x.ifRake(5) - x.ifRake(8), 320);
        Check.same("just less", x.fineRake(4800), 2);
        Check.same("not just less", x.fineRake(4799), 3);
        Check.same("just more", x.fineRake(320), 5);
        Check.same("not just more", x.fineRake(319), 6);
    }

    private static void fineRakeOfNothingAndOfMost() {
        Doc.of(FINE, "`most`: 0 to 99999");
        DuctRake x = new DuctRake();
        x.set(1, 0);
        Check.same("an even flow", x.fineRake(0), 2);
        x.radius(500);
        x.set(0, 2686);
        x.set(1, 100);
        Check.same("two holes tell less", x.ifRake(2) - x.ifRake(8), 2128750 - 2228749);
        Check.same("just as much", x.fineRake(99999), 2);
        Check.same("less", x.fineRake(99998), 3);
        x.set(0, 20000);
        // 737500, 354168, 187500, 107500, 54170, 1788, 0
        Check.same("more than can be allowed", x.fineRake(99999), 6);
        Check.same("no rake but that of 8", x.fineRake(0), 8);
    }

    private static void fineRakeOutOfRange() {
        Doc.of(FINE, "Throws `IllegalArgumentException` if most is out of range");
        for (int most : new int[] {-1, 100000, Integer.MIN_VALUE, Integer.MAX_VALUE}) {
            Trial.refused("fineRake(" + most + ")", ARGUMENT, x -> x.fineRake(most));
        }
    }

    private static void evennessOfLeastAndGreatest() {
        Doc.of(EVEN, "Returns the least told speed as a double, divided by the greatest one;");
        share("1,1", 100, 100);
        share("99999,99999", 31622, 31622);
        share("1,99999", 100, 31622);
        share("99999,1", 100, 31622);
        share("4,1,9", 100, 300);
        share("1,9,4", 100, 300);
        share("9,4,1", 100, 300);
        share("1,0,0,0,0,0,0,2", 100, 141);
        share("0,0,0,7", 264, 264); // one is trusted, and tells all of them
        DuctRake failed = even("1,4,100");
        failed.set(3, 0);
        fail(failed, 2);
        Check.sameShare("without one that failed", failed.evenness(), 0.5);
    }

    private static void share(String reading, int least, int greatest) {
        DuctRake x = even(reading);
        x.set(3, 0);
        Check.sameShare("evenness of " + reading, x.evenness(), (double) least / greatest);
    }

    private static void evennessOfNone() {
        Doc.of(EVEN, "0.0 if there are none, or the greatest one is 0.");
        // The greatest one is never 0: the least told speed of a trusted hole is 100.
        Check.sameShare("no reading", new DuctRake().evenness(), 0.0);
        Check.sameShare("means of 0", even("0,0").evenness(), 0.0);
        DuctRake x = even("100,100");
        Check.sameShare("both trusted", x.evenness(), 1.0);
        fail(x, 0);
        fail(x, 1);
        Check.sameShare("both failed", x.evenness(), 0.0);
    }

    private WouldBeEdges() {
    }
}
