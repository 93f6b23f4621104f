/** The edges that promises 11 to 14 name: the buffer, and readings as texts. */
final class TextEdges {
    private static final String APPEND = "Promise 11";
    private static final String CLEAR = "Promise 12";
    private static final String ERROR = "Promise 13";
    private static final String LOAD = "Promise 14";
    private static final String LONGEST = "99999,99999,99999,99999,99999,99999,99999,99999";
    private static final Class<IllegalArgumentException> ARGUMENT = IllegalArgumentException.class;
    private static final Class<IllegalStateException> STATE = IllegalStateException.class;

    static void run() {
        appendSavesNothing();
        appendOfEachCode();
        appendReturnsTheNewLength();
        appendOutOfRange();
        appendToAFullBuffer();
        clearBufferSavesNothing();
        clearBufferReturnsTheLength();
        firstErrorOfAnEmptyAndAFullBuffer();
        firstErrorIsTheFirst();
        firstErrorAtTheEnds();
        loadKeepsTheReading();
        loadHasTheRadiusOfNow();
        loadDropsTheOldest();
        loadCostsWork();
        loadClearsTheBuffer();
        loadIsUndoable();
        loadReturnsHowManyHeads();
        loadOfNoReading();
        loadOfNoReadingInAnyState();
        Doc.noEdge(ERROR, "Finds the first syntax error of the buffer.");
    }

    private static DuctRake text(String text) {
        DuctRake x = new DuctRake();
        Check.append(x, text);
        return x;
    }

    private static void appendSavesNothing() {
        Doc.of(APPEND, "Appends a character to the buffer.");
        Trial.savesNothing("append", x -> {
            x.clearBuffer();
            x.append(33);
        });
        DuctRake x = new DuctRake();
        x.read();
        x.append('7');
        x.undo();
        Check.same("undo leaves the buffer", x.clearBuffer(), 1);
    }

    private static void appendOfEachCode() {
        Doc.of(APPEND, "`code`: the character code, 33 to 126");
        for (int code = 33; code <= 126; code++) {
            DuctRake x = new DuctRake();
            Check.same("append(" + code + ")", x.append(code), 1);
            // The digest ends with the slots, the length, and the code.
            long shorter = x.digest() - code;
            x.clearBuffer();
            x.append(33);
            Check.same("it is the code " + code, x.digest() - 33, shorter);
        }
    }

    private static void appendReturnsTheNewLength() {
        Doc.of(APPEND, "Returns the new length of the buffer.");
        DuctRake x = new DuctRake();
        for (int length = 1; length <= 50; length++) {
            Check.same("append", x.append(33 + length), length);
        }
    }

    private static void appendOutOfRange() {
        Doc.of(APPEND, "Throws `IllegalArgumentException` if code is not 33 to 126");
        for (int code : new int[] {32, 127, 0, -1, 255, 256 + 48, 65536 + 48, Integer.MIN_VALUE, Integer.MAX_VALUE}) {
            Trial.refused("append(" + code + ")", ARGUMENT, x -> x.append(code));
        }
    }

    private static void appendToAFullBuffer() {
        Doc.of(APPEND, "Throws `IllegalStateException` if the buffer has 50 characters");
        for (int code : new int[] {33, 44, 48, 126}) {
            Trial.refusedIn(States::full, "append of a 51st", STATE, x -> x.append(code));
        }
        for (int code : new int[] {32, 127, -1}) {
            Trial.refusedIn(States::full, "append of a 51st out of range", ARGUMENT, x -> x.append(code));
        }
        DuctRake x = text("1".repeat(49));
        Check.same("the 50th", x.append('1'), 50);
        Check.throwsOnly("the 51st", STATE, () -> x.append('1'));
        Check.throwsOnly("the 51st again", STATE, () -> x.append('1'));
    }

    private static void clearBufferSavesNothing() {
        Doc.of(CLEAR, "Clears the buffer.");
        Trial.savesNothing("clearBuffer", DuctRake::clearBuffer);
        DuctRake x = text("12");
        x.clearBuffer();
        Check.same("nothing is left", x.firstError(), 0);
        Check.throwsOnly("nothing to load", ARGUMENT, x::load);
        Check.append(x, "3");
        x.load();
        Check.same("no digit of before", x.reading(0, 0), 3);
    }

    private static void clearBufferReturnsTheLength() {
        Doc.of(CLEAR, "Returns the length that it had.");
        DuctRake x = new DuctRake();
        Check.same("of an empty one", x.clearBuffer(), 0);
        Check.append(x, "!");
        Check.same("of one", x.clearBuffer(), 1);
        Check.same("of an empty one again", x.clearBuffer(), 0);
        Check.append(x, "~".repeat(50));
        Check.same("of a full one", x.clearBuffer(), 50);
        Check.same("room again", x.append('1'), 1);
    }

    private static void firstErrorOfAnEmptyAndAFullBuffer() {
        Doc.of(ERROR, "the length of the buffer if there is none.");
        Check.same("empty", text("").firstError(), 0);
        Check.same("one digit", text("0").firstError(), 1);
        Check.same("the longest reading", text(LONGEST).firstError(), 47);
        Check.same("a reading that is not complete", text("12,").firstError(), 3);
        Trial.changesNothing("firstError", DuctRake::firstError);
    }

    private static void firstErrorIsTheFirst() {
        Doc.of(ERROR, "Returns the index of the first character that is a syntax error;");
        Check.same("of several", text("1,x,00,yy").firstError(), 2);
        Check.same("a digit behind an error", text("12x34").firstError(), 2);
        Check.same("two commas", text("1,,,").firstError(), 2);
    }

    private static void firstErrorAtTheEnds() {
        Doc.of(ERROR, "the index of the first character that is a syntax error");
        Check.same("the first of one", text("a").firstError(), 0);
        Check.same("the first of 50", text("a" + "1".repeat(49)).firstError(), 0);
        Check.same("the last of two", text("1a").firstError(), 1);
        Check.same("behind the longest reading", text(LONGEST + "a").firstError(), 47);
        Check.same("a ninth head", text("1,2,3,4,5,6,7,8" + ",".repeat(35)).firstError(), 15);
        Check.same("a sixth digit", text("1".repeat(50)).firstError(), 5);
        Check.same("a second zero", text("0".repeat(50)).firstError(), 1);
    }

    private static void loadKeepsTheReading() {
        Doc.of(LOAD, "Keeps the reading in the buffer,");
        int[][] due = {{0, -1, -1, -1, -1, -1, -1, -1}, {99999, 0, -1, -1, -1, -1, -1, -1},
            {1, 23, 456, 7890, 12345, 67890, 99999, 10}};
        DuctRake x = new DuctRake();
        Check.load(x, "0");
        Check.load(x, "99999,0");
        Check.load(x, "1,23,456,7890,12345,67890,99999,10");
        Check.load(x, LONGEST);
        for (int i = 0; i < 3; i++) {
            for (int k = 0; k < 8; k++) {
                Check.same("head " + k + " of " + i, x.reading(i, k), due[i][k]);
            }
        }
        for (int k = 0; k < 8; k++) {
            Check.same("head " + k + " of the longest", x.reading(3, k), 99999);
        }
    }

    private static void loadHasTheRadiusOfNow() {
        Doc.of(LOAD, "with the radius of now");
        DuctRake x = new DuctRake();
        x.radius(50);
        Check.append(x, "1,2,3,4");
        x.radius(500);
        x.load();
        Check.same("not of the time of the text", x.reading(0, 9), 500);
        Check.same("it counts", x.reading(0, 10), 1);
        x.rake(3);
        Check.same("for four holes alone", x.reading(0, 10), 0);
    }

    private static void loadDropsTheOldest() {
        Doc.of(LOAD, "Keeps the reading");
        DuctRake x = new DuctRake();
        for (int i = 0; i < 12; i++) {
            Check.load(x, Integer.toString(100 + i));
            Check.same("kept", x.count(2), i + 1);
        }
        Check.same("the oldest", x.reading(0, 0), 100);
        Check.load(x, "112");
        Check.same("kept", x.count(2), 12);
        Check.same("the oldest of before is dropped", x.reading(0, 0), 101);
        Check.same("the newest is the last", x.reading(11, 0), 112);
        Check.same("so far", x.count(12), 13);
    }

    private static void loadCostsWork() {
        Doc.of(LOAD, "(it costs work as each one),");
        DuctRake x = new DuctRake();
        Check.load(x, "1");
        Check.same("of one head", x.count(10), 5);
        Check.load(x, LONGEST);
        Check.same("of eight heads", x.count(10), 10);
        Check.same("all work", x.count(9), 10);
        Check.same("no work for holes", x.hole(0, 11), 0);
    }

    private static void loadClearsTheBuffer() {
        Doc.of(LOAD, "and clears the buffer.");
        DuctRake x = text("12");
        x.load();
        Check.same("nothing is left", x.firstError(), 0);
        Check.throwsOnly("nothing to load again", ARGUMENT, x::load);
        Check.same("length", x.clearBuffer(), 0);
        Check.append(x, LONGEST);
        x.load();
        Check.same("the first character again", x.append('5'), 1);
        x.load();
        Check.same("no digit of before", x.reading(2, 0), 5);
        Check.same("no head of before", x.reading(2, 1), -1);
    }

    private static void loadIsUndoable() {
        Doc.of(LOAD, "Undoable.");
        Trial.undoable("load of one head", x -> Check.load(x, "0"));
        Trial.undoable("load of eight", x -> Check.load(x, LONGEST));
        DuctRake x = text("7");
        x.load();
        x.undo();
        Check.same("undo does not bring the buffer back", x.clearBuffer(), 0);
        Check.same("but takes the reading back", x.count(2), 0);
    }

    private static void loadReturnsHowManyHeads() {
        Doc.of(LOAD, "Returns how many heads it has.");
        for (int heads = 1; heads <= 8; heads++) {
            Check.same("load of " + heads, text("0,".repeat(heads - 1) + "0").load(), heads);
        }
        DuctRake full = States.full();
        full.clearBuffer();
        Check.append(full, "10,20");
        Check.same("not how many are kept", full.load(), 2);
    }

    private static void loadOfNoReading() {
        Doc.of(LOAD, "Throws `IllegalArgumentException` if the buffer does not tell a reading as a text");
        String[] texts = {"", ",", "1,", ",1", "1,,2", "00", "01", "0,00", "100000", "1,123456", "-1", "1.0", "x", "1x",
            "1,2,3,4,5,6,7,8,", "1,2,3,4,5,6,7,8,9", LONGEST + ",", LONGEST + "9", "1,2,3,4,5,6,7,", "1,2;",
            "1".repeat(50), ",".repeat(50)};
        for (String text : texts) {
            Trial.refusedIn(() -> text(text), "load of " + text, ARGUMENT, DuctRake::load);
        }
    }

    private static void loadOfNoReadingInAnyState() {
        Doc.of(LOAD, "if the buffer does not tell a reading as a text");
        Trial.refusedIn(States::fresh, "load of nothing", ARGUMENT, DuctRake::load);
        Trial.refusedIn(States::used, "load of half a reading", ARGUMENT, DuctRake::load);
        Trial.refusedIn(States::full, "load of too many", ARGUMENT, DuctRake::load);
        DuctRake x = States.undone();
        Check.same("but of a reading", x.load(), 1);
    }

    private TextEdges() {
    }
}
