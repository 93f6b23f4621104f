/** Promises 8 to 10: readings are taken and dropped, settings change. */
public final class ReadingTest {
    private static final Class<IllegalArgumentException> ARGUMENT = IllegalArgumentException.class;
    private static final Class<IndexOutOfBoundsException> INDEX = IndexOutOfBoundsException.class;

    public static void main(String[] args) {
        read();
        readDropsTheOldest();
        drop();
        set();
        Check.end();
    }

    private static void read() {
        DuctRake x = new DuctRake();
        x.block(0, 37);
        x.leak(0, 13);
        x.block(3, 0);
        Check.same("read", x.read(), 1);
        int[] heads = {1524, 3657, 2994, 0};
        for (int k = 0; k < 4; k++) {
            Check.same("head " + k, x.reading(0, k), heads[k]);
        }
        Check.same("no head 4", x.reading(0, 4), -1);
        Check.same("size", x.reading(0, 8), 4);
        Check.same("radius", x.reading(0, 9), 100);
        Check.same("work", x.count(10), 5);
        Check.same("readings so far", x.count(12), 1);
        Check.same("undoable", x.count(13), 4);
        x.rake(2);
        x.radius(300);
        Check.same("read again", x.read(), 2);
        Check.same("size", x.reading(1, 8), 2);
        Check.same("radius", x.reading(1, 9), 300);
        Check.same("the first counts no longer", x.reading(0, 10), 0);
        Check.same("the second counts", x.reading(1, 10), 1);
        Check.same("undo", x.undo(), 5);
        Check.same("kept after undo", x.count(2), 1);
        Check.same("so far after undo", x.count(12), 1);
    }

    private static void readDropsTheOldest() {
        DuctRake x = new DuctRake();
        for (int i = 1; i <= 12; i++) {
            x.set(0, 100 * i);
            Check.same("read " + i, x.read(), i);
        }
        int oldest = x.reading(0, 0);
        int next = x.reading(1, 0);
        x.set(0, 9000);
        Check.same("read 13", x.read(), 12);
        Check.same("the oldest is dropped", x.reading(0, 0), next);
        Check.holds("the heads differ", oldest != next);
        Check.same("the newest is the last", x.reading(11, 0), x.hole(0, 6));
        Check.same("readings so far", x.count(12), 13);
        Check.same("work", x.count(10), 65);
        x.undo();
        Check.same("the oldest is back", x.reading(0, 0), oldest);
    }

    private static void drop() {
        DuctRake x = new DuctRake();
        Check.load(x, "1,2,3,4");
        x.rake(2);
        x.radius(200);
        Check.load(x, "5,6");
        x.rake(3);
        x.radius(300);
        Check.load(x, "7,8,9");
        Check.refused("drop(3)", x, INDEX, () -> x.drop(3));
        Check.refused("drop(-1)", x, INDEX, () -> x.drop(-1));
        Check.refused("drop(12)", x, INDEX, () -> x.drop(12));
        Check.refused("drop(least)", x, INDEX, () -> x.drop(Integer.MIN_VALUE));
        Check.same("drop(1)", x.drop(1), 2);
        int[] last = {7, 8, 9, -1, -1, -1, -1, -1, 3, 300, 1};
        for (int what = 0; what < last.length; what++) {
            Check.same("what was 2 is 1: " + what, x.reading(1, what), last[what]);
        }
        Check.same("0 stays", x.reading(0, 3), 4);
        Check.same("work stays", x.count(10), 15);
        Check.same("so far stays", x.count(12), 3);
        Check.same("drop(0)", x.drop(0), 1);
        Check.same("what was 1 is 0", x.reading(0, 0), 7);
        Check.same("drop(0) again", x.drop(0), 0);
        Check.refused("drop of none", x, INDEX, () -> x.drop(0));
        x.undo();
        x.undo();
        x.undo();
        Check.same("all are back", x.count(2), 3);
        Check.same("1 is back", x.reading(1, 1), 6);
    }

    private static void set() {
        int[] first = {8000, 40, 0, 50, 5};
        int[] most = {20000, 100, 2000, 100, 50};
        DuctRake x = new DuctRake();
        for (int i = 0; i < 5; i++) {
            int setting = i;
            Check.same("set most", x.set(i, most[i]), first[i]);
            Check.same("set least", x.set(i, 0), most[i]);
            Check.same("set first", x.set(i, first[i]), 0);
            Check.same("setting", x.setting(i), first[i]);
            Check.refused("set below", x, ARGUMENT, () -> x.set(setting, -1));
            Check.refused("set above", x, ARGUMENT, () -> x.set(setting, most[setting] + 1));
            Check.refused("set far above", x, ARGUMENT, () -> x.set(setting, Integer.MAX_VALUE));
            Check.refused("set far below", x, ARGUMENT, () -> x.set(setting, Integer.MIN_VALUE));
        }
        for (int setting : new int[] {-1, 5, Integer.MIN_VALUE, Integer.MAX_VALUE}) {
            Check.refused("set of " + setting, x, INDEX, () -> x.set(setting, 0));
            Check.refused("set, both wrong", x, INDEX, () -> x.set(setting, -1));
        }
        x.set(0, 0);
        x.undo();
        Check.same("undo", x.setting(0), 8000);
    }
}
