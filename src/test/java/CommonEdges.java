import java.util.ArrayDeque;

/** The edges that Terms names for work, settings, the input text, snapshots and undo, and exceptions. */
final class CommonEdges {
    private static final String WORK = "Work";
    private static final String SETTINGS = "Settings";
    private static final String TEXT = "Input text";
    private static final String EXCEPTIONS = "Exceptions";
    private static final Class<IllegalArgumentException> ARGUMENT = IllegalArgumentException.class;
    private static final Class<IllegalStateException> STATE = IllegalStateException.class;
    private static final Class<IndexOutOfBoundsException> INDEX = IndexOutOfBoundsException.class;

    static void run() {
        workOfReadings();
        workOfTests();
        workOfCleanings();
        tensAreRoundedDown();
        leakedAtAll();
        speedAtTheMiddle();
        lessAtTheWall();
        swirl();
        shareOfTheGreatestMean();
        leakOfATestThatIsPassed();
        fiftyCharacters();
        oneToEightHeads();
        numbersOfAReading();
        firstSyntaxError();
        everyCharacterAtTheStart();
        everyCharacterBehindADigit();
        twoSlots();
        snapshotHasAllBut();
        savedAlsoIfNothingChanges();
        notSavedIfRefused();
        undoBringsBackAllBut();
        sixSavedStates();
        savedStatesGoRound();
        refusedChangesNothing();
        firstNamedIsThrown();
        none();
        looksChangeNothing();
        wouldBesChangeNothing();
        lastCall();
        Doc.noEdge(TEXT, "Snapshots, undo");
        Doc.noEdge(EXCEPTIONS, "Ahead of the calls `rake`, `radius`, `block`, `leak`, `clean`, `test` the interface "
            + "says: ---- the rake.");
        Doc.noEdge(EXCEPTIONS, "Ahead of the calls `read`, `drop`, `set` the interface says: ---- readings.");
        Doc.noEdge(EXCEPTIONS, "Ahead of the calls `append`, `clearBuffer`, `firstError`, `load`, `keep`, `goBack`, "
            + "`undo` the interface says: ---- texts, snapshots.");
    }

    private static void work(DuctRake x, int all, int ofReadings, int ofOldRakes) {
        Check.same("all work", x.count(9), all);
        Check.same("work of readings", x.count(10), ofReadings);
        Check.same("work for holes that were taken out", x.count(11), ofOldRakes);
    }

    private static void workOfReadings() {
        Doc.of(WORK, "Each reading that is taken costs 5 of work,");
        DuctRake x = new DuctRake();
        work(x, 0, 0, 0);
        x.read();
        work(x, 5, 5, 0);
        Check.load(x, "1");
        work(x, 10, 10, 0);
        for (int i = 0; i < 11; i++) {
            x.read();
        }
        work(x, 65, 65, 0);
        x.drop(0);
        work(x, 65, 65, 0);
        x.rake(2);
        work(x, 65, 65, 0);
    }

    private static void workOfTests() {
        Doc.of(WORK, "each test 3 for its hole,");
        DuctRake x = new DuctRake();
        x.test(0);
        x.leak(3, 100);
        x.test(3);
        x.test(3);
        int[] due = {3, 0, 0, 6};
        for (int k = 0; k < 4; k++) {
            Check.same("work of hole " + k, x.hole(k, 11), due[k]);
        }
        work(x, 9, 0, 0);
        x.rake(4);
        work(x, 9, 0, 9);
        Check.same("without work", x.hole(3, 11), 0);
    }

    private static void workOfCleanings() {
        Doc.of(WORK, "each cleaning 2 for its hole,");
        DuctRake x = new DuctRake();
        Check.same("of a clear hole", x.clean(0), 2);
        Check.same("again", x.clean(0), 2);
        Check.same("work of hole 0", x.hole(0, 11), 4);
        Check.same("of the others", x.hole(1, 11), 0);
        x.block(3, 0);
        x.leak(3, 100);
        Check.same("the dearest", x.clean(3), 16);
        Check.same("and clear after that", x.clean(3), 2);
        Check.same("work of hole 3", x.hole(3, 11), 18);
        work(x, 22, 0, 0);
    }

    private static void tensAreRoundedDown() {
        Doc.of(WORK, "and 1 more for each 10 hundredths (rounded down) that it did not pass,");
        int[][] due = {{100, 2}, {99, 2}, {91, 2}, {90, 3}, {89, 3}, {81, 3}, {80, 4}, {11, 10}, {10, 11}, {9, 11},
            {1, 11}, {0, 12}};
        for (int[] row : due) {
            DuctRake x = new DuctRake();
            x.block(2, row[0]);
            Check.same("clean of one that passes " + row[0], x.clean(2), row[1]);
        }
    }

    private static void leakedAtAll() {
        Doc.of(WORK, "and 4 more if its tube leaked.");
        int[][] due = {{0, 2}, {1, 6}, {5, 6}, {100, 6}};
        for (int[] row : due) {
            DuctRake x = new DuctRake();
            x.leak(2, row[0]);
            Check.same("clean of one that leaks " + row[0], x.clean(2), row[1]);
        }
        DuctRake x = new DuctRake();
        x.leak(2, 9);
        x.test(2);
        x.leak(2, 0);
        Check.same("failed, but leaks no longer", x.clean(2), 2);
    }

    private static void range(int setting, int first, int most) {
        DuctRake x = new DuctRake();
        Check.same("at first", x.setting(setting), first);
        x.set(setting, 0);
        Check.same("least", x.setting(setting), 0);
        Check.throwsOnly("below", ARGUMENT, () -> x.set(setting, -1));
        Check.same("still least", x.setting(setting), 0);
        x.set(setting, most);
        Check.same("most", x.setting(setting), most);
        Check.throwsOnly("above", ARGUMENT, () -> x.set(setting, most + 1));
        Check.same("still most", x.setting(setting), most);
    }

    private static void speedAtTheMiddle() {
        Doc.of(SETTINGS, "0: the speed at the middle, 0 to 20000, at first 8000;");
        range(0, 8000, 20000);
        DuctRake x = new DuctRake();
        x.set(0, 0);
        Check.same("no flow", x.flow(3), 0);
        x.set(1, 0);
        x.set(0, 20000);
        Check.same("20000 everywhere", x.flow(3), 2000000);
    }

    private static void lessAtTheWall() {
        Doc.of(SETTINGS, "1: hundredths by which it is less at the wall, 0 to 100, at first 40;");
        range(1, 40, 100);
        DuctRake x = new DuctRake();
        x.set(1, 0);
        Check.same("nothing less", x.hole(3, 4), 8000);
        x.set(1, 100);
        Check.same("less by 93 of 100", x.hole(3, 4), 560);
    }

    private static void swirl() {
        Doc.of(SETTINGS, "2: the swirl, 0 to 2000, at first 0;");
        range(2, 0, 2000);
        DuctRake x = new DuctRake();
        Check.same("no swirl", x.hole(3, 4), 5024);
        x.set(2, 2000);
        Check.same("more by 93 of 100", x.hole(3, 4), 6884);
    }

    private static void shareOfTheGreatestMean() {
        Doc.of(SETTINGS, "3: hundredths of the greatest mean, 0 to 100, at first 50;");
        range(3, 50, 100);
        DuctRake x = new DuctRake();
        Check.load(x, "1000,500,499,1");
        Check.same("at first", x.count(4), 2);
        x.set(3, 0);
        Check.same("nothing asked", x.count(4), 4);
        x.set(3, 100);
        Check.same("all asked", x.count(4), 1);
    }

    private static void leakOfATestThatIsPassed() {
        Doc.of(SETTINGS, "4: the leak with which a test is still passed, 0 to 50, at first 5.");
        range(4, 5, 50);
        DuctRake x = new DuctRake();
        int[][] due = {{5, 5, 1}, {5, 6, 2}, {0, 0, 1}, {0, 1, 2}, {50, 50, 1}, {50, 51, 2}, {50, 100, 2}};
        for (int[] row : due) {
            x.set(4, row[0]);
            x.leak(1, row[1]);
            Check.same("test of " + row[1] + " with " + row[0], x.test(1), row[2]);
        }
    }

    private static void fiftyCharacters() {
        Doc.of(TEXT, "The buffer has at most 50 characters.");
        DuctRake x = new DuctRake();
        for (int i = 1; i <= 50; i++) {
            Check.same("append " + i, x.append('0' + i % 10), i);
        }
        Check.throwsOnly("one more", STATE, () -> x.append('1'));
        Check.same("50 are left", x.clearBuffer(), 50);
        Check.same("and there is room again", x.append('1'), 1);
    }

    private static DuctRake text(String text) {
        DuctRake x = new DuctRake();
        Check.append(x, text);
        return x;
    }

    private static void isReading(String text, int heads) {
        DuctRake x = text(text);
        Check.same("no error in " + text, x.firstError(), text.length());
        Check.same("load of " + text, x.load(), heads);
    }

    private static void isNoReading(String text, int error) {
        DuctRake x = text(text);
        Check.same("first error of " + text, x.firstError(), error);
        Check.throwsOnly("load of " + text, ARGUMENT, x::load);
        Check.same("the buffer stays", x.clearBuffer(), text.length());
    }

    private static void oneToEightHeads() {
        Doc.of(TEXT, "A reading as a text is one to eight heads with \",\" between them,");
        isNoReading("", 0);
        isReading("1", 1);
        isReading("1,2", 2);
        isReading("1,2,3,4,5,6,7,8", 8);
        isNoReading("1,2,3,4,5,6,7,8,9", 15);
        isNoReading("1,2,3,4,5,6,7,8,", 15);
        isReading("99999,99999,99999,99999,99999,99999,99999,99999", 8);
        isNoReading("99999,99999,99999,99999,99999,99999,99999,99999,99", 47);
        isNoReading(",1", 0);
        isNoReading("1,", 2);
        isNoReading("1,2,3,4,5,6,7,", 14);
        isNoReading("1,,2", 2);
        isNoReading(",", 0);
    }

    private static void numbersOfAReading() {
        Doc.of(TEXT, "each a number, 0 to 99999, without leading zeros.");
        isReading("0", 1);
        isReading("0,0", 2);
        isReading("9", 1);
        isReading("10", 1);
        isReading("99999", 1);
        isReading("10000,90000", 2);
        isNoReading("100000", 5);
        isNoReading("999990", 5);
        isNoReading("0,100000", 7);
        isNoReading("00", 1);
        isNoReading("01", 1);
        isNoReading("000000", 1);
        isNoReading("5,00", 3);
        isNoReading("5,07,1", 3);
        isNoReading("-1", 0);
        isNoReading("+1", 0);
        isNoReading("1.5", 1);
        isNoReading("1,-0", 2);
    }

    private static void firstSyntaxError() {
        Doc.of(TEXT, "The buffer is read from left to right; a character is a syntax error if no reading as a text, "
            + "of any length, begins with the characters before it and this character.");
        isNoReading("x", 0);
        isNoReading("xx1", 0);
        isNoReading("1x,", 1);
        isNoReading("12,0x0", 4);
        isNoReading("1,2,3,4,5,6,7,8;", 15);
        isNoReading("1,2,3,4,5,6,7,00", 15);
        isNoReading("99999,99999,99999,99999,99999,99999,99999,999999", 47);
        // As long as something can follow, there is no error, though there is no reading either.
        isNoReading("99999,99999,99999,99999,99999,99999,99999,", 42);
        Check.same("an empty buffer has none", text("").firstError(), 0);
    }

    private static void everyCharacterAtTheStart() {
        Doc.of(TEXT, "a character is a syntax error if no reading as a text");
        for (int code = 33; code <= 126; code++) {
            boolean isDigit = code >= 48 && code <= 57;
            Check.same("first error of " + (char) code, text("" + (char) code).firstError(), isDigit ? 1 : 0);
        }
    }

    private static void everyCharacterBehindADigit() {
        Doc.of(TEXT, "begins with the characters before it and this character.");
        for (int code = 33; code <= 126; code++) {
            boolean isDigit = code >= 48 && code <= 57;
            boolean isComma = code == 44;
            char c = (char) code;
            Check.same("behind 1: " + c, text("1" + c).firstError(), isDigit || isComma ? 2 : 1);
            Check.same("behind 0: " + c, text("0" + c).firstError(), isComma ? 2 : 1);
            Check.same("behind a comma: " + c, text("1," + c).firstError(), isDigit ? 3 : 2);
            Check.same("behind five digits: " + c, text("12345" + c).firstError(), isComma ? 6 : 5);
        }
    }

    private static void twoSlots() {
        Doc.of(TEXT, "There are two slots;");
        DuctRake x = new DuctRake();
        Check.throwsOnly("slot -1", ARGUMENT, () -> x.keep(-1));
        Check.throwsOnly("slot 2", ARGUMENT, () -> x.keep(2));
        x.radius(60);
        x.keep(0);
        x.radius(70);
        x.keep(1);
        x.goBack(0);
        Check.same("slot 0", x.count(1), 60);
        x.goBack(1);
        Check.same("slot 1", x.count(1), 70);
    }

    private static void snapshotHasAllBut() {
        Doc.of(TEXT, "a snapshot is all but the buffer, the slots and the saved states.");
        DuctRake x = States.full();
        int[] counts = new int[13];
        for (int what = 0; what < 13; what++) {
            counts[what] = x.count(what);
        }
        x.clearBuffer();
        x.keep(0);
        x.undo();
        x.undo();
        x.rake(2);
        x.set(3, 7);
        Check.append(x, "7");
        x.keep(1);
        x.goBack(0);
        for (int what = 0; what < 13; what++) {
            Check.same("count " + what, x.count(what), counts[what]);
        }
        Check.same("setting 3", x.setting(3), 50);
        Check.same("passes", x.hole(5, 1), 95);
        Check.same("the saved states stay, and are one more", x.count(13), 6);
        Check.same("the buffer stays", x.clearBuffer(), 1);
        x.goBack(1);
        Check.same("the other slot stays", x.count(0), 2);
        Check.same("and its setting 3", x.setting(3), 7);
    }

    /** Calls that change nothing, but are undoable. */
    private static Trial.Use[] idle() {
        return new Trial.Use[] {x -> x.rake(x.count(0)), x -> x.radius(x.count(1)), x -> x.block(0, x.hole(0, 1)),
            x -> x.leak(1, x.hole(1, 2)), x -> x.set(0, x.setting(0)), x -> x.set(4, x.setting(4))};
    }

    private static void savedAlsoIfNothingChanges() {
        Doc.of(TEXT, "Each method that is marked \"undoable\" and does not throw an exception saves the state from "
            + "before it (also if it changes nothing):");
        DuctRake x = new DuctRake();
        Trial.Use[] idle = idle();
        for (int i = 0; i < idle.length; i++) {
            idle[i].on(x);
            Check.same("saved states after " + (i + 1) + " calls that change nothing", x.count(13), i + 1);
            Trial.undoable("one that changes nothing, " + i, idle[i]);
        }
        DuctRake back = new DuctRake();
        back.keep(0);
        back.goBack(0);
        Check.same("goBack to what is there", back.count(13), 1);
        Check.same("undo of it", back.undo(), 0);
    }

    private static void notSavedIfRefused() {
        Doc.of(TEXT, "and does not throw an exception saves the state");
        DuctRake x = new DuctRake();
        Trial.Use[] refused = {y -> y.rake(9), y -> y.radius(501), y -> y.block(4, 1), y -> y.leak(0, 101),
            y -> y.clean(-1), y -> y.test(4), y -> y.drop(0), y -> y.set(0, 20001), DuctRake::load, y -> y.goBack(0)};
        for (int i = 0; i < refused.length; i++) {
            Trial.Use use = refused[i];
            try {
                use.on(x);
                Check.holds("call " + i + " was not refused", false);
            } catch (IllegalArgumentException | IndexOutOfBoundsException | IllegalStateException e) {
                Check.same("saved states after the refused call " + i, x.count(13), 0);
            }
        }
    }

    private static void undoBringsBackAllBut() {
        Doc.of(TEXT, "all, also what is counted so far, but the buffer, the slots and the saved states.");
        DuctRake x = new DuctRake();
        x.test(0);
        x.read();
        x.keep(0);
        x.rake(2);
        x.undo();
        Check.same("work of hole 0", x.hole(0, 11), 3);
        Check.same("work for holes that were taken out", x.count(11), 0);
        Check.append(x, "1,2");
        x.load();
        Check.same("so far", x.count(12), 2);
        x.keep(1);
        Check.append(x, "34");
        Check.same("left", x.undo(), 2);
        Check.same("readings so far", x.count(12), 1);
        Check.same("work of readings", x.count(10), 5);
        Check.same("all work", x.count(9), 8);
        Check.same("the buffer is what it was", x.clearBuffer(), 2);
        Check.same("slot 1 has the later state", x.goBack(1), 2);
        Check.same("slot 0 the earlier one", x.goBack(0), 1);
    }

    private static void sixSavedStates() {
        Doc.of(TEXT, "At most 6 states are saved; the oldest one is dropped first.");
        DuctRake x = new DuctRake();
        for (int i = 1; i <= 6; i++) {
            x.radius(100 + i);
            Check.same("saved", x.count(13), i);
        }
        DuctRake one = new DuctRake();
        for (int i = 1; i <= 7; i++) {
            one.radius(100 + i);
        }
        Check.same("a seventh", one.count(13), 6);
        for (int i = 5; i >= 0; i--) {
            Check.same("left of six", x.undo(), i);
            Check.same("radius", x.count(1), 100 + i);
            Check.same("left of seven", one.undo(), i);
            Check.same("radius", one.count(1), 101 + i);
        }
        Check.throwsOnly("a seventh undo", STATE, x::undo);
        Check.throwsOnly("the oldest one is dropped", STATE, one::undo);
    }

    private static void savedStatesGoRound() {
        Doc.of(TEXT, "the oldest one is dropped first.");
        // More are saved than are kept, some are taken back, and so on: the place of the next one goes round.
        DuctRake x = new DuctRake();
        ArrayDeque<Integer> due = new ArrayDeque<>();
        int radius = 100;
        for (int round = 0; round < 14; round++) {
            for (int i = 0; i < 3 + round % 5; i++) {
                due.addLast(x.count(1));
                radius++;
                x.radius(radius);
                if (due.size() > 6) {
                    due.removeFirst();
                }
            }
            for (int i = 0; i < 1 + round % 7 && !due.isEmpty(); i++) {
                int before = due.removeLast();
                Check.same("left", x.undo(), due.size());
                Check.same("radius", x.count(1), before);
            }
            Check.same("saved", x.count(13), due.size());
        }
    }

    private static void refusedChangesNothing() {
        Doc.of(EXCEPTIONS, "A call that throws an exception changes nothing.");
        Trial.refused("rake", ARGUMENT, x -> x.rake(9));
        Trial.refused("radius", ARGUMENT, x -> x.radius(49));
        Trial.refused("block of a hole", INDEX, x -> x.block(x.count(0), 0));
        Trial.refused("block", ARGUMENT, x -> x.block(0, 101));
        Trial.refused("leak of a hole", INDEX, x -> x.leak(-1, 0));
        Trial.refused("leak", ARGUMENT, x -> x.leak(0, 101));
        Trial.refused("clean", INDEX, x -> x.clean(x.count(0)));
        Trial.refused("test", INDEX, x -> x.test(x.count(0)));
        Trial.refused("drop", INDEX, x -> x.drop(x.count(2)));
        Trial.refused("set of a setting", INDEX, x -> x.set(5, 0));
        Trial.refused("set", ARGUMENT, x -> x.set(4, 51));
        Trial.refused("append", ARGUMENT, x -> x.append(127));
        Trial.refusedIn(States::full, "append of a 51st", STATE, x -> x.append(48));
        Trial.refusedIn(States::full, "load", ARGUMENT, DuctRake::load);
        Trial.refused("keep", ARGUMENT, x -> x.keep(2));
        Trial.refused("goBack", ARGUMENT, x -> x.goBack(2));
        Trial.refusedIn(States::used, "goBack to none", STATE, x -> x.goBack(0));
        Trial.refusedIn(States::undone, "undo", STATE, DuctRake::undo);
        Trial.refused("hole", ARGUMENT, x -> x.hole(0, 12));
        Trial.refused("reading", INDEX, x -> x.reading(x.count(2), 0));
        Trial.refused("flow", ARGUMENT, x -> x.flow(4));
        Trial.refused("count", ARGUMENT, x -> x.count(14));
        Trial.refused("setting", INDEX, x -> x.setting(5));
        Trial.refused("ifRight", INDEX, x -> x.ifRight(x.count(0)));
        Trial.refused("ifRake", ARGUMENT, x -> x.ifRake(9));
        Trial.refused("fineRake", ARGUMENT, x -> x.fineRake(100000));
    }

    private static void firstNamedIsThrown() {
        Doc.of(EXCEPTIONS, "If several exceptions apply, the one that is named first in the throws clause is thrown.");
        Trial.refused("block, both wrong", INDEX, x -> x.block(x.count(0), 101));
        Trial.refused("leak, both wrong", INDEX, x -> x.leak(-1, -1));
        Trial.refused("set, both wrong", INDEX, x -> x.set(5, -1));
        Trial.refusedIn(States::full, "append to a full buffer, both wrong", ARGUMENT, x -> x.append(32));
        Trial.refusedIn(States::fresh, "goBack without snapshots, both wrong", ARGUMENT, x -> x.goBack(2));
        Trial.refused("hole, both wrong", INDEX, x -> x.hole(x.count(0), 12));
        Trial.refused("reading, both wrong", INDEX, x -> x.reading(x.count(2), 11));
    }

    private static void none() {
        Doc.of(EXCEPTIONS, "The constants: `NONE = -1`: There is nothing to return.");
        Check.same("NONE", DuctRake.NONE, -1);
        DuctRake x = new DuctRake();
        Check.same("no mean", x.hole(0, 7), DuctRake.NONE);
        Check.same("no hole that matters", x.worst(), DuctRake.NONE);
        Check.same("no flow", x.flow(0), DuctRake.NONE);
    }

    private static void looksChangeNothing() {
        Doc.of(EXCEPTIONS, "Ahead of the calls `hole`, `reading`, `flow`, `count`, `setting` the interface says: "
            + "---- looks; nothing is changed.");
        for (int i = 0; i <= 13; i++) {
            int what = i;
            Trial.changesNothing("count " + what, x -> x.count(what));
        }
        for (int i = 0; i <= 11; i++) {
            int what = i;
            Trial.changesNothing("hole " + what, x -> x.hole(x.count(0) - 1, what));
        }
        for (int i = 0; i <= 10; i++) {
            int what = i;
            Trial.changesNothing("reading " + what, x -> lookAtLast(x, what));
        }
        for (int i = 0; i <= 3; i++) {
            int what = i;
            Trial.changesNothing("flow " + what, x -> x.flow(what));
        }
        Trial.changesNothing("setting", x -> x.setting(4));
    }

    private static void lookAtLast(DuctRake x, int what) {
        if (x.count(2) > 0) {
            x.reading(x.count(2) - 1, what);
        }
    }

    private static void wouldBesChangeNothing() {
        Doc.of(EXCEPTIONS, "Ahead of the calls `ifRight`, `worst`, `ifRake`, `fineRake`, `evenness`, `digest` "
            + "the interface says: ---- what would be; nothing is changed.");
        Trial.changesNothing("ifRight", x -> x.ifRight(0));
        Trial.changesNothing("ifRight of the last", x -> x.ifRight(x.count(0) - 1));
        Trial.changesNothing("worst", DuctRake::worst);
        Trial.changesNothing("ifRake 2", x -> x.ifRake(2));
        Trial.changesNothing("ifRake 8", x -> x.ifRake(8));
        Trial.changesNothing("fineRake", x -> x.fineRake(0));
        Trial.changesNothing("evenness", DuctRake::evenness);
        Trial.changesNothing("digest", DuctRake::digest);
    }

    private static void lastCall() {
        Doc.of("What it is", "An object is used for at most 512 calls after it has been made;");
        DuctRake x = new DuctRake();
        for (int i = 1; i <= 255; i++) {
            Check.same("read " + i, x.read(), Math.min(i, 12));
            Check.same("test " + i, x.test(3), 1);
        }
        Check.same("call 511: work for hole 3", x.hole(3, 11), 765);
        Check.same("call 512: all work", x.count(9), 2040);
    }

    private CommonEdges() {
    }
}
