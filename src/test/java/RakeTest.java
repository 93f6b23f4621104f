/** Promises 1 to 7: a new object, and the calls that change the rake. */
public final class RakeTest {
    private static final Class<IllegalArgumentException> ARGUMENT = IllegalArgumentException.class;
    private static final Class<IndexOutOfBoundsException> INDEX = IndexOutOfBoundsException.class;

    public static void main(String[] args) {
        newObject();
        rake();
        rakeTakesHolesOut();
        radius();
        block();
        leak();
        clean();
        workOfCleaning();
        test();
        Check.end();
    }

    private static void newObject() {
        DuctRake x = new DuctRake();
        int[] counts = {4, 100, 0, 0, 0, 4, 0, 0, 0, 0, 0, 0, 0, 0};
        for (int what = 0; what < counts.length; what++) {
            Check.same("new count " + what, x.count(what), counts[what]);
        }
        int[] settings = {8000, 40, 0, 50, 5};
        for (int i = 0; i < settings.length; i++) {
            Check.same("new setting " + i, x.setting(i), settings[i]);
        }
        int[] distances = {35, 61, 79, 93};
        for (int k = 0; k < 4; k++) {
            Check.same("new distance", x.hole(k, 0), distances[k]);
            Check.same("new passes", x.hole(k, 1), 100);
            Check.same("new leak", x.hole(k, 2), 0);
            Check.same("new test", x.hole(k, 3), 0);
            Check.same("new work", x.hole(k, 11), 0);
        }
        Check.same("new buffer", x.clearBuffer(), 0);
        Check.throwsOnly("new slot 0", IllegalStateException.class, () -> x.goBack(0));
        Check.throwsOnly("new slot 1", IllegalStateException.class, () -> x.goBack(1));
        Check.throwsOnly("new undo", IllegalStateException.class, x::undo);
        Check.same("NONE", DuctRake.NONE, -1);
    }

    private static void rake() {
        DuctRake x = new DuctRake();
        Check.same("rake(2)", x.rake(2), 4);
        Check.same("holes", x.count(0), 2);
        Check.same("rake(8)", x.rake(8), 2);
        Check.same("rake(8) again", x.rake(8), 8);
        Check.same("undoable", x.count(13), 3);
        Check.same("holes", x.count(0), 8);
        Check.same("distance of 7 of 8", x.hole(7, 0), 96);
        for (int holes : new int[] {1, 9, 0, -1, Integer.MIN_VALUE, Integer.MAX_VALUE}) {
            Check.refused("rake " + holes, x, ARGUMENT, () -> x.rake(holes));
        }
        x.undo();
        x.undo();
        Check.same("holes after undo", x.count(0), 2);
    }

    private static void rakeTakesHolesOut() {
        DuctRake x = new DuctRake();
        x.read();
        x.block(1, 30);
        x.leak(1, 20);
        x.test(1);
        x.test(3);
        x.clean(3);
        Check.same("work of hole 3", x.hole(3, 11), 5);
        Check.same("rake(4)", x.rake(4), 4);
        for (int k = 0; k < 4; k++) {
            Check.same("passes of the new one", x.hole(k, 1), 100);
            Check.same("leak of the new one", x.hole(k, 2), 0);
            Check.same("test of the new one", x.hole(k, 3), 0);
            Check.same("work of the new one", x.hole(k, 11), 0);
        }
        Check.same("readings stay", x.count(2), 1);
        Check.same("a reading of 4 counts", x.count(3), 1);
        Check.same("work of taken out holes", x.count(11), 8);
        Check.same("all work", x.count(9), 13);
        x.test(0);
        x.rake(3);
        Check.same("work of taken out holes adds up", x.count(11), 11);
        Check.same("a reading of 4 does not count for 3", x.count(3), 0);
        x.block(2, 9);
        x.rake(2);
        x.rake(3);
        Check.same("a hole that comes back is as at first", x.hole(2, 1), 100);
    }

    private static void radius() {
        DuctRake x = new DuctRake();
        x.block(0, 40);
        x.read();
        Check.same("radius(50)", x.radius(50), 100);
        Check.same("distance at 50", x.hole(0, 0), 17);
        Check.same("readings stay", x.count(2), 1);
        Check.same("but do not count", x.count(3), 0);
        Check.same("holes stay", x.hole(0, 1), 40);
        Check.same("radius(500)", x.radius(500), 50);
        Check.same("distance 0 at 500", x.hole(0, 0), 176);
        Check.same("distance 3 at 500", x.hole(3, 0), 467);
        Check.same("radius(100)", x.radius(100), 500);
        Check.same("the reading counts again", x.count(3), 1);
        for (int radius : new int[] {49, 501, 0, -100, Integer.MIN_VALUE, Integer.MAX_VALUE}) {
            Check.refused("radius " + radius, x, ARGUMENT, () -> x.radius(radius));
        }
        Check.same("undo", x.undo(), 4);
        Check.same("radius after undo", x.count(1), 500);
    }

    private static void block() {
        DuctRake x = new DuctRake();
        Check.same("block(3, 0)", x.block(3, 0), 100);
        Check.same("block(3, 100)", x.block(3, 100), 0);
        Check.same("block(3, 55)", x.block(3, 55), 100);
        Check.same("passes", x.hole(3, 1), 55);
        Check.same("others pass", x.hole(2, 1), 100);
        Check.same("felt", x.hole(3, 6), 1388);
        Check.same("without work", x.count(9), 0);
        for (int hole : new int[] {-1, 4, 8, Integer.MIN_VALUE, Integer.MAX_VALUE}) {
            Check.refused("block of hole " + hole, x, INDEX, () -> x.block(hole, 50));
            Check.refused("block, both wrong", x, INDEX, () -> x.block(hole, 101));
        }
        for (int passes : new int[] {-1, 101, Integer.MIN_VALUE, Integer.MAX_VALUE}) {
            Check.refused("block by " + passes, x, ARGUMENT, () -> x.block(0, passes));
        }
        Check.same("undo", x.undo(), 2);
        Check.same("passes after undo", x.hole(3, 1), 100);
    }

    private static void leak() {
        DuctRake x = new DuctRake();
        x.test(0);
        Check.same("leak(0, 100)", x.leak(0, 100), 0);
        Check.same("its test stays", x.hole(0, 3), 1);
        Check.same("felt of a whole leak", x.hole(0, 6), 0);
        Check.same("leak(0, 30)", x.leak(0, 30), 100);
        Check.same("leak(0, 0)", x.leak(0, 0), 30);
        Check.same("leak(2, 13)", x.leak(2, 13), 0);
        Check.same("leaks", x.hole(2, 2), 13);
        Check.same("felt 2994 - 389", x.hole(2, 6), 2605);
        for (int hole : new int[] {-1, 4, Integer.MIN_VALUE, Integer.MAX_VALUE}) {
            Check.refused("leak of hole " + hole, x, INDEX, () -> x.leak(hole, 50));
            Check.refused("leak, both wrong", x, INDEX, () -> x.leak(hole, -1));
        }
        for (int leak : new int[] {-1, 101, Integer.MIN_VALUE, Integer.MAX_VALUE}) {
            Check.refused("leak by " + leak, x, ARGUMENT, () -> x.leak(0, leak));
        }
        Check.same("undo", x.undo(), 4);
        Check.same("leaks after undo", x.hole(2, 2), 0);
    }

    private static void clean() {
        DuctRake x = new DuctRake();
        x.block(1, 37);
        x.leak(1, 1);
        x.test(1);
        Check.same("clean: 2, 6, 4", x.clean(1), 12);
        Check.same("passes", x.hole(1, 1), 100);
        Check.same("leaks", x.hole(1, 2), 0);
        Check.same("test", x.hole(1, 3), 0);
        Check.same("work", x.hole(1, 11), 15);
        Check.same("all work", x.count(9), 15);
        Check.same("a clean one", x.clean(1), 2);
        for (int hole : new int[] {-1, 4, Integer.MIN_VALUE, Integer.MAX_VALUE}) {
            Check.refused("clean of hole " + hole, x, INDEX, () -> x.clean(hole));
        }
        x.undo();
        Check.same("undo", x.undo(), 3);
        Check.same("passes after undo", x.hole(1, 1), 37);
        Check.same("work after undo", x.hole(1, 11), 3);
    }

    private static void workOfCleaning() {
        int[] passes = {100, 91, 90, 81, 80, 10, 9, 1, 0};
        int[] works = {2, 2, 3, 3, 4, 11, 11, 11, 12};
        for (int i = 0; i < passes.length; i++) {
            DuctRake x = new DuctRake();
            x.block(0, passes[i]);
            Check.same("clean of one that passes " + passes[i], x.clean(0), works[i]);
            x.block(0, passes[i]);
            x.leak(0, 100);
            Check.same("and leaks", x.clean(0), works[i] + 4);
        }
    }

    private static void test() {
        DuctRake x = new DuctRake();
        Check.same("test of no leak", x.test(2), 1);
        x.leak(2, 5);
        Check.same("test of leak 5", x.test(2), 1);
        Check.same("latest test", x.hole(2, 3), 1);
        x.leak(2, 6);
        Check.same("test of leak 6", x.test(2), 2);
        Check.same("latest test", x.hole(2, 3), 2);
        Check.same("work", x.hole(2, 11), 9);
        Check.same("undoable", x.count(13), 5);
        x.set(4, 50);
        Check.same("the test stays when setting 4 changes", x.hole(2, 3), 2);
        Check.same("test of leak 6, setting 50", x.test(2), 1);
        x.set(4, 0);
        x.leak(1, 1);
        Check.same("test of leak 1, setting 0", x.test(1), 2);
        Check.same("test of leak 0, setting 0", x.test(0), 1);
        for (int hole : new int[] {-1, 4, Integer.MIN_VALUE, Integer.MAX_VALUE}) {
            Check.refused("test of hole " + hole, x, INDEX, () -> x.test(hole));
        }
    }
}
