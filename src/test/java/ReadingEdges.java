/** The edges that promises 8 to 10 name: readings are taken and dropped, settings change. */
final class ReadingEdges {
    private static final String READ = "Promise 8";
    private static final String DROP = "Promise 9";
    private static final String SET = "Promise 10";
    private static final int[] MOST = {20000, 100, 2000, 100, 50};
    private static final int[] FAR = {Integer.MIN_VALUE, Integer.MAX_VALUE, -100, 1000000};
    private static final Class<IllegalArgumentException> ARGUMENT = IllegalArgumentException.class;
    private static final Class<IndexOutOfBoundsException> INDEX = IndexOutOfBoundsException.class;

    static void run() {
        readOfAllAndOfNothing();
        readIsUndoable();
        readReturnsHowManyAreKept();
        dropOfFirstMiddleAndLast();
        dropOfTheOnlyOne();
        dropOfAFullRow();
        dropIsUndoable();
        dropReturnsHowManyAreKept();
        dropOfNoReading();
        setIsUndoable();
        setOfFirstAndLastSetting();
        setReturnsThePreviousValue();
        setOfNoSetting();
        setOutOfRange();
        Doc.noEdge(SET, "Changes a setting.");
        Doc.noEdge(SET, "`value`: the new value");
    }

    private static void readOfAllAndOfNothing() {
        Doc.of(READ, "Takes a reading of the heads that are felt.");
        DuctRake x = new DuctRake();
        x.set(1, 0);
        x.block(0, 0);
        x.leak(1, 100);
        x.block(2, 1);
        x.read();
        int[] due = {0, 0, 64, 6400};
        for (int k = 0; k < 4; k++) {
            Check.same("head " + k, x.reading(0, k), due[k]);
            Check.same("is what is felt", x.hole(k, 6), due[k]);
        }
        x.set(0, 0);
        x.read();
        x.clean(0);
        x.radius(500);
        x.set(0, 20000);
        x.set(2, 2000);
        for (int k = 0; k < 4; k++) {
            Check.same("head " + k + " of no flow", x.reading(1, k), 0);
            Check.same("head " + k + " of before", x.reading(0, k), due[k]);
        }
        x.rake(8);
        x.read();
        Check.same("the greatest head of all", x.reading(2, 7), 48118);
    }

    private static void readIsUndoable() {
        Doc.of(READ, "Undoable.");
        Trial.undoable("read", DuctRake::read);
    }

    private static void readReturnsHowManyAreKept() {
        Doc.of(READ, "Returns how many readings are kept then.");
        DuctRake x = new DuctRake();
        int[] due = {1, 2, 3, 4, 5, 6, 7, 8, 9, 10, 11, 12, 12, 12};
        for (int kept : due) {
            Check.same("read", x.read(), kept);
        }
        Check.same("kept", x.count(2), 12);
        x.drop(11);
        Check.same("read after a drop", x.read(), 12);
    }

    /** Readings 0 to 5 of one to six heads, each head told by its reading's number, at the radii 100 to 105. */
    private static DuctRake six() {
        DuctRake x = new DuctRake();
        for (int i = 0; i < 6; i++) {
            x.radius(100 + i);
            Check.load(x, ((i + 1) + ",").repeat(i) + (i + 1));
        }
        return x;
    }

    private static void left(String when, DuctRake x, int... due) {
        Check.same(when + ": kept", x.count(2), due.length);
        for (int i = 0; i < due.length; i++) {
            Check.same(when + ": heads of " + i, x.reading(i, 8), due[i]);
            Check.same(when + ": radius of " + i, x.reading(i, 9), 99 + due[i]);
            for (int k = 0; k < 8; k++) {
                Check.same(when + ": head " + k + " of " + i, x.reading(i, k), k < due[i] ? due[i] : -1);
            }
        }
    }

    private static void dropOfFirstMiddleAndLast() {
        Doc.of(DROP, "Drops a reading; those behind it have numbers that are 1 less.");
        DuctRake x = six();
        left("before", x, 1, 2, 3, 4, 5, 6);
        x.drop(5);
        left("the last", x, 1, 2, 3, 4, 5);
        x.drop(0);
        left("the first", x, 2, 3, 4, 5);
        x.drop(1);
        left("one between", x, 2, 4, 5);
        Check.same("work stays", x.count(10), 30);
        Check.same("so far stays", x.count(12), 6);
    }

    private static void dropOfTheOnlyOne() {
        Doc.of(DROP, "Drops a reading;");
        DuctRake x = new DuctRake();
        x.read();
        x.drop(0);
        left("none", x);
        Check.same("none counts", x.count(3), 0);
        Check.throwsOnly("reading 0", INDEX, () -> x.reading(0, 8));
        Check.same("the next has the number 0", x.read(), 1);
        Check.same("its heads", x.reading(0, 8), 4);
    }

    private static void dropOfAFullRow() {
        Doc.of(DROP, "those behind it have numbers that are 1 less.");
        DuctRake x = new DuctRake();
        for (int i = 0; i < 12; i++) {
            Check.load(x, Integer.toString(i));
        }
        x.drop(0);
        for (int i = 0; i < 11; i++) {
            Check.same("was " + (i + 1), x.reading(i, 0), i + 1);
        }
        Check.throwsOnly("reading 11", INDEX, () -> x.reading(11, 0));
        Check.load(x, "12");
        Check.same("again 12", x.count(2), 12);
        Check.same("nothing was dropped for it", x.reading(0, 0), 1);
        x.drop(11);
        Check.same("the last is gone", x.reading(10, 0), 11);
        Check.throwsOnly("reading 11", INDEX, () -> x.reading(11, 0));
    }

    private static void dropIsUndoable() {
        Doc.of(DROP, "Undoable.");
        for (States.Maker state : new States.Maker[] {States::used, States::full, States::undone}) {
            Trial.undoableIn(state, "drop of the first", x -> x.drop(0));
            Trial.undoableIn(state, "drop of the last", x -> x.drop(x.count(2) - 1));
        }
    }

    private static void dropReturnsHowManyAreKept() {
        Doc.of(DROP, "Returns how many readings are kept then.");
        DuctRake x = States.full();
        for (int kept = 11; kept >= 0; kept--) {
            Check.same("drop", x.drop(kept / 2), kept);
        }
    }

    private static void dropOfNoReading() {
        Doc.of(DROP, "`reading`: its number");
        DuctRake x = six();
        Check.same("the greatest number", x.drop(5), 5);
        Check.same("the least number", x.drop(0), 4);
        Doc.of(DROP, "Throws `IndexOutOfBoundsException` if there is no such reading");
        Trial.refused("drop(-1)", INDEX, y -> y.drop(-1));
        Trial.refused("drop of the one behind the last", INDEX, y -> y.drop(y.count(2)));
        Trial.refused("drop(12)", INDEX, y -> y.drop(12));
        Trial.refusedIn(States::fresh, "drop of none", INDEX, y -> y.drop(0));
        for (int reading : FAR) {
            Trial.refused("drop(" + reading + ")", INDEX, y -> y.drop(reading));
        }
    }

    private static void setIsUndoable() {
        Doc.of(SET, "Undoable.");
        for (int i = 0; i < 5; i++) {
            int setting = i;
            Trial.undoable("set to least", x -> x.set(setting, 0));
            Trial.undoable("set to most", x -> x.set(setting, MOST[setting]));
        }
    }

    private static void setOfFirstAndLastSetting() {
        Doc.of(SET, "`setting`: 0 to 4");
        DuctRake x = new DuctRake();
        int[] due = {8000, 40, 0, 50, 5};
        for (int setting = 0; setting <= 4; setting++) {
            x.set(setting, 30 + setting);
            due[setting] = 30 + setting;
            for (int i = 0; i <= 4; i++) {
                Check.same("setting " + i + " after set of " + setting, x.setting(i), due[i]);
            }
        }
    }

    private static void setReturnsThePreviousValue() {
        Doc.of(SET, "Returns the previous value.");
        int[] first = {8000, 40, 0, 50, 5};
        DuctRake x = new DuctRake();
        for (int setting = 0; setting <= 4; setting++) {
            Check.same("at first", x.set(setting, 0), first[setting]);
            Check.same("least", x.set(setting, MOST[setting]), 0);
            Check.same("most", x.set(setting, MOST[setting]), MOST[setting]);
            Check.same("most still", x.set(setting, 1), MOST[setting]);
        }
    }

    private static void setOfNoSetting() {
        Doc.of(SET, "Throws `IndexOutOfBoundsException` if there is no such setting");
        for (int setting : new int[] {-1, 5, Integer.MIN_VALUE, Integer.MAX_VALUE}) {
            Trial.refused("set of " + setting, INDEX, x -> x.set(setting, 0));
            Trial.refused("set of " + setting + " out of range", INDEX, x -> x.set(setting, -1));
        }
    }

    private static void setOutOfRange() {
        Doc.of(SET, "Throws `IllegalArgumentException` if value is out of range");
        for (int i = 0; i < 5; i++) {
            int setting = i;
            Trial.refused("set below", ARGUMENT, x -> x.set(setting, -1));
            Trial.refused("set above", ARGUMENT, x -> x.set(setting, MOST[setting] + 1));
            for (int value : FAR) {
                Trial.refused("set to " + value, ARGUMENT, x -> x.set(setting, value));
            }
        }
    }

    private ReadingEdges() {
    }
}
