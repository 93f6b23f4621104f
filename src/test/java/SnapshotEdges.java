/** The edges that promises 15 to 17 name: snapshots and undo. */
final class SnapshotEdges {
    private static final String KEEP = "Promise 15";
    private static final String BACK = "Promise 16";
    private static final String UNDO = "Promise 17";
    private static final int[] NO_SLOTS = {-1, 2, Integer.MIN_VALUE, Integer.MAX_VALUE};
    private static final Class<IllegalArgumentException> ARGUMENT = IllegalArgumentException.class;
    private static final Class<IllegalStateException> STATE = IllegalStateException.class;

    static void run() {
        keepInPlaceOfTheOneThere();
        keepSavesNothing();
        keepInBothSlots();
        keepReturnsHowManyAreKept();
        keepOutOfRange();
        goBackAndTheSnapshotStays();
        snapshotIsNotTouchedLater();
        goBackIsUndoable();
        goBackToBothSlots();
        goBackReturnsHowManyAreKept();
        goBackOutOfRange();
        goBackToNone();
        undoRestoresAndDrops();
        undoIsNotUndoable();
        undoOfAGoBack();
        undoReturnsHowManyAreLeft();
        undoOfNone();
    }

    private static void keepInPlaceOfTheOneThere() {
        Doc.of(KEEP, "Takes a snapshot, in place of the one in the slot.");
        for (int slot = 0; slot < 2; slot++) {
            DuctRake x = new DuctRake();
            x.radius(60);
            x.keep(slot);
            x.radius(70);
            x.keep(slot);
            x.radius(80);
            x.goBack(slot);
            Check.same("the later one", x.count(1), 70);
        }
    }

    private static void keepSavesNothing() {
        Doc.of(KEEP, "Takes a snapshot");
        Trial.savesNothing("keep(0)", x -> x.keep(0));
        Trial.savesNothing("keep(1)", x -> x.keep(1));
    }

    private static void keepInBothSlots() {
        Doc.of(KEEP, "`slot`: 0 or 1");
        DuctRake x = new DuctRake();
        x.keep(1);
        Check.throwsOnly("0 is empty still", STATE, () -> x.goBack(0));
        x.rake(8);
        x.keep(0);
        x.rake(2);
        x.goBack(1);
        Check.same("slot 1", x.count(0), 4);
        x.goBack(0);
        Check.same("slot 0", x.count(0), 8);
    }

    private static void keepReturnsHowManyAreKept() {
        Doc.of(KEEP, "Returns how many readings are kept.");
        DuctRake x = new DuctRake();
        Check.same("none", x.keep(0), 0);
        for (int i = 1; i <= 13; i++) {
            x.read();
            Check.same("after " + i, x.keep(i % 2), Math.min(i, 12));
        }
    }

    private static void keepOutOfRange() {
        Doc.of(KEEP, "Throws `IllegalArgumentException` if slot is out of range");
        for (int slot : NO_SLOTS) {
            Trial.refused("keep(" + slot + ")", ARGUMENT, x -> x.keep(slot));
        }
    }

    private static void goBackAndTheSnapshotStays() {
        Doc.of(BACK, "Goes back to a snapshot, which stays.");
        DuctRake x = new DuctRake();
        x.block(0, 44);
        x.read();
        x.keep(0);
        for (int i = 0; i < 8; i++) {
            x.block(0, i);
            x.read();
            x.rake(2 + i % 7);
            Check.same("goBack " + i, x.goBack(0), 1);
            Check.same("passes", x.hole(0, 1), 44);
            Check.same("holes", x.count(0), 4);
        }
    }

    private static void snapshotIsNotTouchedLater() {
        Doc.of(BACK, "a snapshot, which stays.");
        DuctRake x = new DuctRake();
        x.read();
        x.keep(0);
        long kept = digestOf(x);
        x.goBack(0);
        x.block(0, 0);
        x.leak(1, 50);
        x.test(1);
        x.clean(2);
        x.set(0, 1);
        x.radius(50);
        x.drop(0);
        Check.load(x, "5,6,7,8");
        x.goBack(0);
        Check.same("changes after goBack do not reach it", digestOf(x), kept);
        x.keep(1);
        x.block(3, 0);
        x.goBack(1);
        Check.same("nor those after keep", digestOf(x), kept);
    }

    /** The digest, after enough has been saved that as many states are saved each time, and both slots are filled. */
    private static long digestOf(DuctRake x) {
        for (int i = 0; i < 6; i++) {
            x.set(0, x.setting(0));
        }
        x.keep(1);
        return x.digest();
    }

    private static void goBackIsUndoable() {
        Doc.of(BACK, "Undoable.");
        Trial.undoableIn(States::used, "goBack(1)", x -> x.goBack(1));
        for (States.Maker state : new States.Maker[] {States::full, States::undone}) {
            Trial.undoableIn(state, "goBack(0)", x -> x.goBack(0));
            Trial.undoableIn(state, "goBack(1)", x -> x.goBack(1));
        }
    }

    private static void goBackToBothSlots() {
        Doc.of(BACK, "`slot`: 0 or 1");
        DuctRake x = new DuctRake();
        x.radius(60);
        x.keep(0);
        x.radius(70);
        x.keep(1);
        x.radius(80);
        x.goBack(0);
        Check.same("slot 0", x.count(1), 60);
        x.goBack(1);
        Check.same("slot 1", x.count(1), 70);
        x.goBack(0);
        Check.same("slot 0 again", x.count(1), 60);
    }

    private static void goBackReturnsHowManyAreKept() {
        Doc.of(BACK, "Returns how many readings are kept then.");
        DuctRake x = new DuctRake();
        x.keep(0);
        for (int i = 0; i < 13; i++) {
            x.read();
        }
        x.keep(1);
        Check.same("none", x.goBack(0), 0);
        Check.same("none are there", x.count(2), 0);
        Check.same("twelve", x.goBack(1), 12);
        Check.same("twelve are there", x.count(2), 12);
        Check.same("the last is there", x.reading(11, 8), 4);
    }

    private static void goBackOutOfRange() {
        Doc.of(BACK, "Throws `IllegalArgumentException` if slot is out of range");
        for (int slot : NO_SLOTS) {
            Trial.refused("goBack(" + slot + ")", ARGUMENT, x -> x.goBack(slot));
        }
    }

    private static void goBackToNone() {
        Doc.of(BACK, "Throws `IllegalStateException` if there is no snapshot in it");
        Trial.refusedIn(States::fresh, "goBack(0)", STATE, x -> x.goBack(0));
        Trial.refusedIn(States::fresh, "goBack(1)", STATE, x -> x.goBack(1));
        Trial.refusedIn(States::used, "goBack(0) beside a snapshot in 1", STATE, x -> x.goBack(0));
        DuctRake x = new DuctRake();
        x.keep(0);
        Check.throwsOnly("goBack(1) beside a snapshot in 0", STATE, () -> x.goBack(1));
        x.rake(2);
        x.undo();
        Check.throwsOnly("undo fills no slot", STATE, () -> x.goBack(1));
        x.goBack(0);
        Check.throwsOnly("goBack fills no slot", STATE, () -> x.goBack(1));
    }

    private static void undoRestoresAndDrops() {
        Doc.of(UNDO, "Restores the latest saved state, and drops it.");
        DuctRake x = new DuctRake();
        x.radius(60);
        x.radius(70);
        x.radius(80);
        x.undo();
        Check.same("the latest", x.count(1), 70);
        x.undo();
        Check.same("the one before", x.count(1), 60);
        x.radius(90);
        x.undo();
        Check.same("the newest after an undo", x.count(1), 60);
        x.undo();
        Check.same("the first", x.count(1), 100);
        Check.throwsOnly("no more", STATE, x::undo);
        Check.same("it is left", x.count(1), 100);
    }

    private static void undoIsNotUndoable() {
        Doc.of(UNDO, "and drops it.");
        DuctRake x = States.full();
        for (int left = 5; left >= 0; left--) {
            x.undo();
            Check.same("saved states", x.count(13), left);
        }
        x.block(0, 1);
        Check.same("one again", x.count(13), 1);
    }

    private static void undoOfAGoBack() {
        Doc.of(UNDO, "Restores the latest saved state");
        DuctRake x = new DuctRake();
        x.keep(0);
        x.read();
        x.rake(7);
        x.goBack(0);
        Check.same("holes of the snapshot", x.count(0), 4);
        Check.same("undo", x.undo(), 2);
        Check.same("holes of before", x.count(0), 7);
        Check.same("readings of before", x.count(2), 1);
        Check.same("the snapshot is there still", x.goBack(0), 0);
    }

    private static void undoReturnsHowManyAreLeft() {
        Doc.of(UNDO, "Returns how many saved states are left.");
        DuctRake x = new DuctRake();
        x.read();
        Check.same("of one", x.undo(), 0);
        for (int i = 0; i < 7; i++) {
            x.read();
        }
        for (int left = 5; left >= 0; left--) {
            Check.same("of six, after seven", x.undo(), left);
        }
        Check.same("one reading is never taken back", x.count(2), 1);
    }

    private static void undoOfNone() {
        Doc.of(UNDO, "Throws `IllegalStateException` if there is none");
        Trial.refusedIn(States::fresh, "undo of a new object", STATE, DuctRake::undo);
        Trial.refusedIn(States::undone, "undo when all are undone", STATE, DuctRake::undo);
        DuctRake x = new DuctRake();
        x.keep(0);
        x.append('1');
        x.clearBuffer();
        Check.throwsOnly("a snapshot is no saved state", STATE, x::undo);
        Check.throwsOnly("a refused call saves nothing", ARGUMENT, () -> x.rake(1));
        Check.throwsOnly("still none", STATE, x::undo);
    }

    private SnapshotEdges() {
    }
}
