/** Promises 15 to 17: snapshots and undo. */
public final class SnapshotTest {
    private static final Class<IllegalArgumentException> ARGUMENT = IllegalArgumentException.class;
    private static final Class<IllegalStateException> STATE = IllegalStateException.class;

    public static void main(String[] args) {
        keep();
        goBack();
        goBackTakesAll();
        undo();
        undoKeepsSix();
        undoOfEachCall();
        Check.end();
    }

    private static void keep() {
        DuctRake x = new DuctRake();
        Check.same("keep(0)", x.keep(0), 0);
        x.read();
        Check.same("keep(1)", x.keep(1), 1);
        x.read();
        Check.same("keep(0) again", x.keep(0), 2);
        Check.same("not undoable", x.count(13), 2);
        for (int slot : new int[] {-1, 2, Integer.MIN_VALUE, Integer.MAX_VALUE}) {
            Check.refused("keep " + slot, x, ARGUMENT, () -> x.keep(slot));
        }
        Check.same("goBack(1)", x.goBack(1), 1);
        Check.same("goBack(0) has the later one", x.goBack(0), 2);
    }

    private static void goBack() {
        DuctRake x = new DuctRake();
        for (int slot : new int[] {-1, 2, Integer.MIN_VALUE, Integer.MAX_VALUE}) {
            Check.refused("goBack " + slot, x, ARGUMENT, () -> x.goBack(slot));
        }
        Check.refused("goBack to none", x, STATE, () -> x.goBack(0));
        x.keep(1);
        Check.refused("goBack to none beside one", x, STATE, () -> x.goBack(0));
        x.read();
        x.read();
        Check.same("goBack(1)", x.goBack(1), 0);
        Check.same("undoable", x.count(13), 3);
        x.read();
        Check.same("it stays", x.goBack(1), 0);
        Check.same("undo", x.undo(), 4);
        Check.same("readings after undo", x.count(2), 1);
        x.undo();
        x.undo();
        Check.same("readings after three", x.count(2), 2);
    }

    private static void goBackTakesAll() {
        DuctRake x = new DuctRake();
        x.rake(5);
        x.radius(250);
        x.block(4, 60);
        x.leak(3, 7);
        x.test(3);
        x.set(2, 1000);
        x.read();
        x.keep(0);
        int[] counts = countsOf(x);
        long[] holes = {x.hole(4, 1), x.hole(3, 2), x.hole(3, 3), x.hole(3, 11), x.reading(0, 4)};
        x.test(0);
        x.rake(8);
        x.radius(60);
        x.set(2, 0);
        x.read();
        x.drop(0);
        Check.append(x, "4,5");
        x.goBack(0);
        int[] after = countsOf(x);
        for (int what = 0; what < counts.length; what++) {
            Check.same("count after goBack: " + what, after[what], counts[what]);
        }
        long[] back = {x.hole(4, 1), x.hole(3, 2), x.hole(3, 3), x.hole(3, 11), x.reading(0, 4)};
        for (int i = 0; i < holes.length; i++) {
            Check.same("hole after goBack: " + i, back[i], holes[i]);
        }
        Check.same("setting after goBack", x.setting(2), 1000);
        Check.same("the buffer stays", x.clearBuffer(), 3);
        x.block(0, 1);
        x.goBack(0);
        Check.same("changes do not reach the snapshot", x.hole(0, 1), 100);
    }

    /** All but the saved states. */
    private static int[] countsOf(DuctRake x) {
        int[] counts = new int[13];
        for (int what = 0; what < counts.length; what++) {
            counts[what] = x.count(what);
        }
        return counts;
    }

    private static void undo() {
        DuctRake x = new DuctRake();
        Check.refused("undo of none", x, STATE, x::undo);
        x.block(0, 10);
        x.block(0, 10);
        Check.same("also if nothing changes", x.count(13), 2);
        x.keep(0);
        Check.append(x, "12");
        Check.same("undo", x.undo(), 1);
        Check.same("passes", x.hole(0, 1), 10);
        Check.same("the slot stays", x.goBack(0), 0);
        x.undo();
        Check.same("undo again", x.undo(), 0);
        Check.same("passes", x.hole(0, 1), 100);
        Check.same("the buffer stays", x.clearBuffer(), 2);
        Check.refused("undo of none left", x, STATE, x::undo);
    }

    private static void undoKeepsSix() {
        DuctRake x = new DuctRake();
        for (int i = 1; i <= 20; i++) {
            x.radius(100 + i);
            Check.same("saved states", x.count(13), Math.min(i, 6));
        }
        for (int i = 1; i <= 6; i++) {
            Check.same("left", x.undo(), 6 - i);
            Check.same("radius", x.count(1), 120 - i);
        }
        Check.throwsOnly("no seventh", STATE, x::undo);
        x.radius(77);
        Check.same("one more", x.undo(), 0);
        Check.same("radius", x.count(1), 114);
    }

    private static void undoOfEachCall() {
        DuctRake x = new DuctRake();
        x.keep(0);
        x.read();
        Check.Call[] calls = {() -> x.rake(6), () -> x.radius(60), () -> x.block(1, 2), () -> x.leak(1, 2),
            () -> x.clean(1), () -> x.test(1), x::read, () -> x.drop(0), () -> x.set(1, 1), () -> x.goBack(0)};
        for (int i = 0; i < calls.length; i++) {
            long before = x.digest();
            calls[i].run();
            Check.holds("call " + i + " changes", x.digest() != before);
            x.undo();
            Check.same("undo of call " + i, x.digest(), before);
        }
        long before = x.digest();
        Check.append(x, "1,2,3,4");
        x.load();
        x.undo();
        Check.same("undo of load", x.digest(), before);
    }
}
