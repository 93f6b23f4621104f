/** The edges that promises 1 to 7 name: a new object, and the calls that change the rake. */
final class RakeEdges {
    private static final String NEW = "Promise 1";
    private static final String RAKE = "Promise 2";
    private static final String RADIUS = "Promise 3";
    private static final String BLOCK = "Promise 4";
    private static final String LEAK = "Promise 5";
    private static final String CLEAN = "Promise 6";
    private static final String TEST = "Promise 7";
    private static final int[] FAR = {Integer.MIN_VALUE, Integer.MAX_VALUE, -100, 1000000};
    private static final Class<IllegalArgumentException> ARGUMENT = IllegalArgumentException.class;
    private static final Class<IndexOutOfBoundsException> INDEX = IndexOutOfBoundsException.class;

    static void run() {
        newObject();
        newObjectsAreApart();
        rakeMakesHolesNew();
        rakeOfAsManyHoles();
        rakeLeavesReadings();
        rakeIsUndoable();
        rakeOfTwoToEight();
        rakeReturnsTheOneBefore();
        rakeOutOfRange();
        radiusPutsHoles();
        radiusLeavesReadings();
        radiusIsUndoable();
        radiusOfFiftyToFiveHundred();
        radiusReturnsTheOneBefore();
        radiusOutOfRange();
        blockIsUndoable();
        blockOfFirstAndLastHole();
        blockByNothingAndAll();
        blockReturnsWhatPassed();
        blockOfNoHole();
        blockOutOfRange();
        leakLeavesTheTest();
        leakIsUndoable();
        leakOfFirstAndLastHole();
        leakOfNothingAndAll();
        leakReturnsWhatLeaked();
        leakOfNoHole();
        leakOutOfRange();
        cleanMends();
        cleanIsUndoable();
        cleanOfFirstAndLastHole();
        cleanReturnsTheWork();
        cleanOfNoHole();
        testIsUndoable();
        testOfFirstAndLastHole();
        testOfTheLastLeakThatPasses();
        testOfNoHole();
        Doc.noEdge(BLOCK, "Changes what a hole passes.");
    }

    private static void refusedHoles(String call, Holes use) {
        Trial.refused(call + " of hole -1", INDEX, x -> use.on(x, -1));
        Trial.refused(call + " of the hole behind the last", INDEX, x -> use.on(x, x.count(0)));
        Trial.refused(call + " of hole 8", INDEX, x -> use.on(x, 8));
        for (int hole : FAR) {
            Trial.refused(call + " of hole " + hole, INDEX, x -> use.on(x, hole));
        }
    }

    interface Holes {
        void on(DuctRake x, int hole);
    }

    private static void newObject() {
        Doc.of(NEW, "Creates a duct with a rake of 4 clear holes, without readings, with empty slots and an "
            + "empty buffer.");
        DuctRake x = new DuctRake();
        int[] counts = {4, 100, 0, 0, 0, 4, 0, 0, 0, 0, 0, 0, 0, 0};
        for (int what = 0; what < counts.length; what++) {
            Check.same("count " + what, x.count(what), counts[what]);
        }
        int[] first = {100, 0, 0};
        for (int k = 0; k < 4; k++) {
            for (int what = 1; what <= 3; what++) {
                Check.same("hole " + k + ", " + what, x.hole(k, what), first[what - 1]);
            }
            Check.same("work of hole " + k, x.hole(k, 11), 0);
        }
        Check.throwsOnly("no hole 4", INDEX, () -> x.hole(4, 0));
        Check.throwsOnly("no reading", INDEX, () -> x.reading(0, 0));
        Check.throwsOnly("empty slot 0", IllegalStateException.class, () -> x.goBack(0));
        Check.throwsOnly("empty slot 1", IllegalStateException.class, () -> x.goBack(1));
        Check.throwsOnly("nothing to undo", IllegalStateException.class, x::undo);
        Check.throwsOnly("nothing to load", ARGUMENT, x::load);
        Check.same("no error in the buffer", x.firstError(), 0);
        Check.same("empty buffer", x.clearBuffer(), 0);
    }

    private static void newObjectsAreApart() {
        Doc.of(NEW, "Creates a duct");
        long untouched = new DuctRake().digest();
        DuctRake x = States.full();
        DuctRake y = new DuctRake();
        Check.same("new beside a used one", y.digest(), untouched);
        x.undo();
        y.block(0, 3);
        Check.same("another is not touched", new DuctRake().digest(), untouched);
    }

    private static void rakeMakesHolesNew() {
        Doc.of(RAKE, "Puts another rake in: all of its holes are as at first, without work;");
        DuctRake x = new DuctRake();
        x.rake(8);
        for (int k = 0; k < 8; k++) {
            x.block(k, 0);
            x.leak(k, 100);
            x.test(k);
        }
        x.rake(2);
        asAtFirst(x);
        x.rake(8);
        asAtFirst(x);
        Check.same("work for eight tests", x.count(11), 24);
        Check.same("is all work", x.count(9), 24);
    }

    private static void asAtFirst(DuctRake x) {
        for (int k = 0; k < x.count(0); k++) {
            Check.same("passes of " + k, x.hole(k, 1), 100);
            Check.same("leak of " + k, x.hole(k, 2), 0);
            Check.same("test of " + k, x.hole(k, 3), 0);
            Check.same("work of " + k, x.hole(k, 11), 0);
        }
    }

    private static void rakeOfAsManyHoles() {
        Doc.of(RAKE, "all of its holes are as at first, without work;");
        DuctRake x = new DuctRake();
        x.block(0, 1);
        x.leak(3, 1);
        x.test(3);
        x.rake(4);
        asAtFirst(x);
        Check.same("the old ones are taken out", x.count(11), 3);
        x.rake(4);
        Check.same("no more work is taken out", x.count(11), 3);
    }

    private static void rakeLeavesReadings() {
        Doc.of(RAKE, "readings stay.");
        DuctRake x = States.full();
        int last = x.reading(11, 7);
        x.rake(2);
        Check.same("all are kept", x.count(2), 12);
        Check.same("none counts", x.count(3), 0);
        Check.same("they have eight heads", x.reading(11, 8), 8);
        Check.same("the last head of the last", x.reading(11, 7), last);
        x.rake(8);
        Check.same("all count again", x.count(3), 12);
        DuctRake none = new DuctRake();
        none.rake(8);
        Check.same("none is kept", none.count(2), 0);
    }

    private static void rakeIsUndoable() {
        Doc.of(RAKE, "Undoable.");
        Trial.undoable("rake(2)", x -> x.rake(2));
        Trial.undoable("rake(8)", x -> x.rake(8));
        Trial.undoable("rake of as many", x -> x.rake(x.count(0)));
    }

    private static void rakeOfTwoToEight() {
        Doc.of(RAKE, "`holes`: 2 to 8");
        for (int holes = 2; holes <= 8; holes++) {
            DuctRake x = new DuctRake();
            Check.same("rake(" + holes + ")", x.rake(holes), 4);
            Check.same("holes", x.count(0), holes);
        }
    }

    private static void rakeReturnsTheOneBefore() {
        Doc.of(RAKE, "Returns how many the one before had.");
        DuctRake x = new DuctRake();
        Check.same("at first", x.rake(8), 4);
        Check.same("most", x.rake(2), 8);
        Check.same("least", x.rake(2), 2);
        Check.same("as many", x.rake(4), 2);
    }

    private static void rakeOutOfRange() {
        Doc.of(RAKE, "Throws `IllegalArgumentException` if holes is out of range");
        for (int holes : new int[] {1, 9, 0, -1}) {
            Trial.refused("rake(" + holes + ")", ARGUMENT, x -> x.rake(holes));
        }
        for (int holes : FAR) {
            Trial.refused("rake(" + holes + ")", ARGUMENT, x -> x.rake(holes));
        }
    }

    private static void radiusPutsHoles() {
        Doc.of(RADIUS, "Changes the radius of the duct; holes are put to their new places;");
        DuctRake x = new DuctRake();
        x.block(3, 7);
        x.leak(3, 9);
        x.test(3);
        int[][] due = {{50, 17, 30, 39, 46}, {500, 176, 306, 395, 467}, {100, 35, 61, 79, 93}};
        for (int[] row : due) {
            x.radius(row[0]);
            for (int k = 0; k < 4; k++) {
                Check.same("distance " + k + " at " + row[0], x.hole(k, 0), row[k + 1]);
            }
            Check.same("passes as before", x.hole(3, 1), 7);
            Check.same("leaks as before", x.hole(3, 2), 9);
            Check.same("its test as before", x.hole(3, 3), 2);
            Check.same("its work as before", x.hole(3, 11), 3);
        }
        Check.same("without work", x.count(9), 3);
    }

    private static void radiusLeavesReadings() {
        Doc.of(RADIUS, "readings stay.");
        DuctRake x = States.full();
        int last = x.reading(11, 7);
        x.radius(499);
        Check.same("all are kept", x.count(2), 12);
        Check.same("none counts", x.count(3), 0);
        Check.same("radius of then", x.reading(0, 9), 500);
        Check.same("the last head of the last", x.reading(11, 7), last);
        x.radius(500);
        Check.same("all count again", x.count(3), 12);
    }

    private static void radiusIsUndoable() {
        Doc.of(RADIUS, "Undoable.");
        Trial.undoable("radius(50)", x -> x.radius(50));
        Trial.undoable("radius(500)", x -> x.radius(500));
        Trial.undoable("radius as before", x -> x.radius(x.count(1)));
    }

    private static void radiusOfFiftyToFiveHundred() {
        Doc.of(RADIUS, "`radius`: 50 to 500");
        for (int radius : new int[] {50, 51, 499, 500}) {
            DuctRake x = new DuctRake();
            Check.same("radius(" + radius + ")", x.radius(radius), 100);
            Check.same("radius", x.count(1), radius);
        }
    }

    private static void radiusReturnsTheOneBefore() {
        Doc.of(RADIUS, "Returns the radius before.");
        DuctRake x = new DuctRake();
        Check.same("at first", x.radius(500), 100);
        Check.same("most", x.radius(50), 500);
        Check.same("least", x.radius(50), 50);
        Check.same("the same", x.radius(51), 50);
    }

    private static void radiusOutOfRange() {
        Doc.of(RADIUS, "Throws `IllegalArgumentException` if radius is out of range");
        for (int radius : new int[] {49, 501, 0, -50}) {
            Trial.refused("radius(" + radius + ")", ARGUMENT, x -> x.radius(radius));
        }
        for (int radius : FAR) {
            Trial.refused("radius(" + radius + ")", ARGUMENT, x -> x.radius(radius));
        }
    }

    private static void blockIsUndoable() {
        Doc.of(BLOCK, "Undoable.");
        Trial.undoable("block by all", x -> x.block(0, 0));
        Trial.undoable("block by nothing", x -> x.block(x.count(0) - 1, 100));
    }

    private static void blockOfFirstAndLastHole() {
        Doc.of(BLOCK, "`hole`: its number");
        for (int holes = 2; holes <= 8; holes++) {
            DuctRake x = new DuctRake();
            x.rake(holes);
            x.block(0, 11);
            x.block(holes - 1, 22);
            for (int k = 0; k < holes; k++) {
                Check.same("passes of " + k, x.hole(k, 1), k == 0 ? 11 : k == holes - 1 ? 22 : 100);
            }
        }
    }

    private static void blockByNothingAndAll() {
        Doc.of(BLOCK, "`passes`: 0 to 100");
        DuctRake x = new DuctRake();
        for (int passes : new int[] {0, 1, 99, 100}) {
            x.block(2, passes);
            Check.same("passes", x.hole(2, 1), passes);
        }
        Check.same("without work", x.count(9), 0);
    }

    private static void blockReturnsWhatPassed() {
        Doc.of(BLOCK, "Returns what it passed before.");
        DuctRake x = new DuctRake();
        Check.same("at first", x.block(1, 0), 100);
        Check.same("nothing", x.block(1, 0), 0);
        Check.same("nothing still", x.block(1, 100), 0);
        Check.same("all", x.block(1, 1), 100);
        Check.same("another hole", x.block(0, 1), 100);
    }

    private static void blockOfNoHole() {
        Doc.of(BLOCK, "Throws `IndexOutOfBoundsException` if there is no such hole");
        refusedHoles("block", (x, hole) -> x.block(hole, 0));
        refusedHoles("block out of range", (x, hole) -> x.block(hole, -1));
    }

    private static void blockOutOfRange() {
        Doc.of(BLOCK, "Throws `IllegalArgumentException` if passes is out of range");
        Trial.refused("block by -1", ARGUMENT, x -> x.block(0, -1));
        Trial.refused("block by 101", ARGUMENT, x -> x.block(x.count(0) - 1, 101));
        for (int passes : FAR) {
            Trial.refused("block by " + passes, ARGUMENT, x -> x.block(0, passes));
        }
    }

    private static void leakLeavesTheTest() {
        Doc.of(LEAK, "Changes what the tube of a hole leaks; its test stays.");
        DuctRake x = new DuctRake();
        x.leak(0, 100);
        Check.same("none stays", x.hole(0, 3), 0);
        x.test(1);
        x.leak(1, 100);
        Check.same("passed stays", x.hole(1, 3), 1);
        x.test(1);
        x.leak(1, 0);
        Check.same("failed stays", x.hole(1, 3), 2);
        Check.same("what it passes stays", x.hole(1, 1), 100);
    }

    private static void leakIsUndoable() {
        Doc.of(LEAK, "Undoable.");
        Trial.undoable("leak of all", x -> x.leak(0, 100));
        Trial.undoable("leak of nothing", x -> x.leak(x.count(0) - 1, 0));
    }

    private static void leakOfFirstAndLastHole() {
        Doc.of(LEAK, "`hole`: its number");
        for (int holes = 2; holes <= 8; holes++) {
            DuctRake x = new DuctRake();
            x.rake(holes);
            x.leak(0, 11);
            x.leak(holes - 1, 22);
            for (int k = 0; k < holes; k++) {
                Check.same("leak of " + k, x.hole(k, 2), k == 0 ? 11 : k == holes - 1 ? 22 : 0);
            }
        }
    }

    private static void leakOfNothingAndAll() {
        Doc.of(LEAK, "`leak`: 0 to 100");
        DuctRake x = new DuctRake();
        for (int leak : new int[] {0, 1, 99, 100}) {
            x.leak(2, leak);
            Check.same("leaks", x.hole(2, 2), leak);
        }
        Check.same("without work", x.count(9), 0);
    }

    private static void leakReturnsWhatLeaked() {
        Doc.of(LEAK, "Returns what it leaked before.");
        DuctRake x = new DuctRake();
        Check.same("at first", x.leak(1, 100), 0);
        Check.same("all", x.leak(1, 100), 100);
        Check.same("all still", x.leak(1, 0), 100);
        Check.same("nothing", x.leak(1, 1), 0);
        Check.same("another hole", x.leak(0, 1), 0);
    }

    private static void leakOfNoHole() {
        Doc.of(LEAK, "Throws `IndexOutOfBoundsException` if there is no such hole");
        refusedHoles("leak", (x, hole) -> x.leak(hole, 0));
        refusedHoles("leak out of range", (x, hole) -> x.leak(hole, 101));
    }

    private static void leakOutOfRange() {
        Doc.of(LEAK, "Throws `IllegalArgumentException` if leak is out of range");
        Trial.refused("leak of -1", ARGUMENT, x -> x.leak(0, -1));
        Trial.refused("leak of 101", ARGUMENT, x -> x.leak(x.count(0) - 1, 101));
        for (int leak : FAR) {
            Trial.refused("leak of " + leak, ARGUMENT, x -> x.leak(0, leak));
        }
    }

    private static void cleanMends() {
        Doc.of(CLEAN, "Cleans a hole, and mends its tube: it passes 100, leaks 0, and has no test.");
        DuctRake x = new DuctRake();
        for (int k = 0; k < 2; k++) {
            x.block(k, 0);
            x.leak(k, 100);
            x.test(k);
        }
        x.clean(1);
        int[][] due = {{0, 100, 2}, {100, 0, 0}};
        for (int k = 0; k < 2; k++) {
            for (int what = 1; what <= 3; what++) {
                Check.same("hole " + k + ", " + what, x.hole(k, what), due[k][what - 1]);
            }
        }
        x.test(1);
        x.clean(1);
        Check.same("a test that was passed is gone, too", x.hole(1, 3), 0);
    }

    private static void cleanIsUndoable() {
        Doc.of(CLEAN, "Undoable.");
        Trial.undoable("clean of the first", x -> x.clean(0));
        Trial.undoable("clean of the last", x -> x.clean(x.count(0) - 1));
    }

    private static void cleanOfFirstAndLastHole() {
        Doc.of(CLEAN, "`hole`: its number");
        for (int holes = 2; holes <= 8; holes++) {
            DuctRake x = new DuctRake();
            x.rake(holes);
            for (int k = 0; k < holes; k++) {
                x.block(k, 50);
            }
            x.clean(0);
            x.clean(holes - 1);
            for (int k = 0; k < holes; k++) {
                boolean isClean = k == 0 || k == holes - 1;
                Check.same("passes of " + k, x.hole(k, 1), isClean ? 100 : 50);
                Check.same("work of " + k, x.hole(k, 11), isClean ? 7 : 0);
            }
        }
    }

    private static void cleanReturnsTheWork() {
        Doc.of(CLEAN, "Returns the work of this.");
        DuctRake x = new DuctRake();
        Check.same("the least", x.clean(2), 2);
        x.block(2, 0);
        x.leak(2, 100);
        Check.same("the most", x.clean(2), 16);
        Check.same("of this, not of all", x.clean(2), 2);
        x.leak(2, 1);
        x.test(2);
        Check.same("the work of tests is not told", x.clean(2), 6);
    }

    private static void cleanOfNoHole() {
        Doc.of(CLEAN, "Throws `IndexOutOfBoundsException` if there is no such hole");
        refusedHoles("clean", DuctRake::clean);
    }

    private static void testIsUndoable() {
        Doc.of(TEST, "Tests the tube of a hole. Undoable.");
        Trial.undoable("test of the first", x -> x.test(0));
        Trial.undoable("test of the last", x -> x.test(x.count(0) - 1));
    }

    private static void testOfFirstAndLastHole() {
        Doc.of(TEST, "`hole`: its number");
        for (int holes = 2; holes <= 8; holes++) {
            DuctRake x = new DuctRake();
            x.rake(holes);
            x.leak(holes - 1, 6);
            Check.same("the first", x.test(0), 1);
            Check.same("the last", x.test(holes - 1), 2);
            for (int k = 0; k < holes; k++) {
                Check.same("test of " + k, x.hole(k, 3), k == 0 ? 1 : k == holes - 1 ? 2 : 0);
            }
        }
    }

    private static void testOfTheLastLeakThatPasses() {
        Doc.of(TEST, "Returns 1 if it is passed, 2 if it fails: if the tube leaks more than setting 4.");
        int[][] due = {{5, 0, 1}, {5, 5, 1}, {5, 6, 2}, {0, 0, 1}, {0, 1, 2}, {50, 50, 1}, {50, 51, 2}, {50, 100, 2}};
        for (int[] row : due) {
            DuctRake x = new DuctRake();
            x.set(4, row[0]);
            x.leak(3, row[1]);
            Check.same("test of " + row[1] + " with " + row[0], x.test(3), row[2]);
            Check.same("latest test", x.hole(3, 3), row[2]);
        }
    }

    private static void testOfNoHole() {
        Doc.of(TEST, "Throws `IndexOutOfBoundsException` if there is no such hole");
        refusedHoles("test", DuctRake::test);
    }

    private RakeEdges() {
    }
}
