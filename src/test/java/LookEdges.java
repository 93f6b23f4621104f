/** The edges that promises 18 to 22 name: looks at holes, readings, flows, counts and settings. */
final class LookEdges {
    private static final String HOLE = "Promise 18";
    private static final String READING = "Promise 19";
    private static final String FLOW = "Promise 20";
    private static final String COUNT = "Promise 21";
    private static final String SETTING = "Promise 22";
    private static final int[] FAR = {Integer.MIN_VALUE, Integer.MAX_VALUE, -100, 1000000};
    private static final Class<IllegalArgumentException> ARGUMENT = IllegalArgumentException.class;
    private static final Class<IndexOutOfBoundsException> INDEX = IndexOutOfBoundsException.class;

    static void run() {
        propertiesOfAHole();
        meanOfAHole();
        whyAHoleIsSuspect();
        toldOfAHole();
        workOfAHole();
        holeOfItsNumber();
        holeOfNoHole();
        holeOutOfRange();
        headsOfAReading();
        restOfAReading();
        countsOrNot();
        readingOfItsNumber();
        readingOfNoReading();
        readingOutOfRange();
        flowsOfTheWholeAndHalves();
        flowWithoutATrustedHole();
        flowOutOfRange();
        countsOfTheDuct();
        countsOfReadings();
        countsOfHoles();
        countsOfWork();
        countsOfReadingsSoFar();
        countsOfSavedStates();
        countOutOfRange();
        firstAndLastSetting();
        settingOfNoSetting();
        Doc.noEdge(HOLE, "Returns a property of a hole.");
        Doc.noEdge(HOLE, "Returns the property.");
        Doc.noEdge(READING, "Returns something of a reading.");
        Doc.noEdge(READING, "Returns the number.");
        Doc.noEdge(FLOW, "Returns a flow.");
        Doc.noEdge(COUNT, "Returns a number.");
        Doc.noEdge(COUNT, "Returns the number.");
        Doc.noEdge(SETTING, "Returns a setting.");
    }

    private static void fail(DuctRake x, int hole) {
        x.leak(hole, 100);
        x.test(hole);
    }

    private static void propertiesOfAHole() {
        Doc.of(HOLE, "`what`: 0: its distance from the middle; 1: what it passes; 2: what its tube leaks; 3: its latest "
            + "test, 0 to 2; 4: the true speed, 5: the true head there; 6: the head that is felt;");
        DuctRake x = new DuctRake();
        x.block(3, 50);
        x.leak(3, 6);
        x.test(3);
        x.test(1);
        int[][] due = {{35, 100, 0, 0, 6880, 4733, 4733}, {61, 100, 0, 1, 6048, 3657, 3657},
            {79, 100, 0, 0, 5472, 2994, 2994}, {93, 50, 6, 2, 5024, 2524, 1187}};
        for (int k = 0; k < 4; k++) {
            for (int what = 0; what <= 6; what++) {
                Check.same("hole " + k + ", " + what, x.hole(k, what), due[k][what]);
            }
        }
    }

    private static void meanOfAHole() {
        Doc.of(HOLE, "7: its mean, NONE if no reading counts;");
        DuctRake x = new DuctRake();
        Check.same("no reading", x.hole(0, 7), -1);
        Check.load(x, "1,2,3");
        Check.same("none that counts", x.hole(0, 7), -1);
        Check.load(x, "0,0,0,99999");
        Check.same("a mean of 0 is none of NONE", x.hole(0, 7), 0);
        Check.same("the greatest mean", x.hole(3, 7), 99999);
        fail(x, 3);
        Check.same("of a suspect hole", x.hole(3, 7), 99999);
        x.radius(99);
        Check.same("none that counts at 99", x.hole(3, 7), -1);
    }

    private static void whyAHoleIsSuspect() {
        Doc.of(HOLE, "8: why it is suspect, 0 if it is trusted;");
        DuctRake x = new DuctRake();
        Check.same("no reading", x.hole(3, 8), 1);
        x.rake(5);
        Check.load(x, "0,49,50,100,100");
        fail(x, 4);
        int[] due = {2, 3, 0, 0, 4};
        for (int k = 0; k < 5; k++) {
            Check.same("why " + k, x.hole(k, 8), due[k]);
        }
    }

    private static void toldOfAHole() {
        Doc.of(HOLE, "9: its told speed, 10: the flow of its ring, NONE for both if no hole is trusted;");
        DuctRake x = new DuctRake();
        Check.same("told, no reading", x.hole(0, 9), -1);
        Check.same("ring, no reading", x.hole(0, 10), -1);
        Check.load(x, "0,0,0,1");
        for (int k = 0; k < 4; k++) {
            Check.same("told by the last", x.hole(k, 9), 100);
            Check.same("ring by the last", x.hole(k, 10), 2500);
        }
        fail(x, 3);
        for (int k = 0; k < 4; k++) {
            Check.same("told, the last failed", x.hole(k, 9), -1);
            Check.same("ring, the last failed", x.hole(k, 10), -1);
        }
    }

    private static void workOfAHole() {
        Doc.of(HOLE, "11: its work so far");
        DuctRake x = new DuctRake();
        Check.same("at first", x.hole(3, 11), 0);
        x.test(3);
        x.clean(3);
        x.read();
        Check.same("a test, a cleaning", x.hole(3, 11), 5);
        Check.same("another hole", x.hole(2, 11), 0);
        x.rake(4);
        Check.same("of a new rake", x.hole(3, 11), 0);
        x.undo();
        Check.same("undo", x.hole(3, 11), 5);
    }

    private static void holeOfItsNumber() {
        Doc.of(HOLE, "`hole`: its number");
        for (int holes = 2; holes <= 8; holes++) {
            DuctRake x = new DuctRake();
            x.rake(holes);
            x.block(0, 1);
            x.block(holes - 1, 2);
            Check.same("the first", x.hole(0, 1), 1);
            Check.same("the last", x.hole(holes - 1, 1), 2);
        }
    }

    private static void holeOfNoHole() {
        Doc.of(HOLE, "Throws `IndexOutOfBoundsException` if there is no such hole");
        for (int what : new int[] {0, 11, 12, -1}) {
            Trial.refused("hole(-1, " + what + ")", INDEX, x -> x.hole(-1, what));
            Trial.refused("hole behind the last, " + what, INDEX, x -> x.hole(x.count(0), what));
            Trial.refused("hole(8, " + what + ")", INDEX, x -> x.hole(8, what));
        }
        for (int hole : FAR) {
            Trial.refused("hole(" + hole + ", 7)", INDEX, x -> x.hole(hole, 7));
        }
    }

    private static void holeOutOfRange() {
        Doc.of(HOLE, "Throws `IllegalArgumentException` if what is not 0 to 11");
        for (int what : new int[] {-1, 12}) {
            Trial.refused("hole(0, " + what + ")", ARGUMENT, x -> x.hole(0, what));
            Trial.refused("hole of the last, " + what, ARGUMENT, x -> x.hole(x.count(0) - 1, what));
        }
        for (int what : FAR) {
            Trial.refused("hole(1, " + what + ")", ARGUMENT, x -> x.hole(1, what));
        }
    }

    private static void headsOfAReading() {
        Doc.of(READING, "`what`: 0 to 7: its head for the hole of this number, NONE if it has not so many;");
        DuctRake x = new DuctRake();
        StringBuilder text = new StringBuilder();
        for (int size = 1; size <= 8; size++) {
            text.append(size == 1 ? "" : ",").append(10 * size);
            Check.load(x, text.toString());
        }
        for (int size = 1; size <= 8; size++) {
            for (int k = 0; k < 8; k++) {
                Check.same("head " + k + " of " + size, x.reading(size - 1, k), k < size ? 10 * (k + 1) : -1);
            }
        }
        Check.load(x, "0,0");
        Check.same("a head of 0 is none of NONE", x.reading(8, 1), 0);
    }

    private static void restOfAReading() {
        Doc.of(READING, "8: how many heads it has; 9: its radius;");
        DuctRake x = new DuctRake();
        x.radius(50);
        Check.load(x, "5");
        x.radius(500);
        Check.load(x, "5,5,5,5,5,5,5,5");
        x.radius(100);
        Check.same("fewest heads", x.reading(0, 8), 1);
        Check.same("most heads", x.reading(1, 8), 8);
        Check.same("least radius", x.reading(0, 9), 50);
        Check.same("greatest radius", x.reading(1, 9), 500);
    }

    private static void countsOrNot() {
        Doc.of(READING, "10: 1 if it counts, otherwise 0");
        DuctRake x = new DuctRake();
        Check.load(x, "5,5,5");
        Check.load(x, "5,5,5,5");
        Check.load(x, "5,5,5,5,5");
        x.radius(101);
        Check.load(x, "5,5,5,5");
        int[][] due = {{100, 0, 1, 0, 0}, {101, 0, 0, 0, 1}, {99, 0, 0, 0, 0}};
        for (int[] row : due) {
            x.radius(row[0]);
            for (int i = 0; i < 4; i++) {
                Check.same("reading " + i + " at " + row[0], x.reading(i, 10), row[i + 1]);
            }
        }
    }

    private static void readingOfItsNumber() {
        Doc.of(READING, "`reading`: its number");
        DuctRake x = new DuctRake();
        for (int i = 0; i < 12; i++) {
            Check.load(x, Integer.toString(i));
            Check.same("the first", x.reading(0, 0), 0);
            Check.same("the last", x.reading(i, 0), i);
            int none = i + 1;
            Check.throwsOnly("the one behind it", INDEX, () -> x.reading(none, 0));
        }
    }

    private static void readingOfNoReading() {
        Doc.of(READING, "Throws `IndexOutOfBoundsException` if there is no such reading");
        for (int what : new int[] {0, 10, 11, -1}) {
            Trial.refused("reading(-1, " + what + ")", INDEX, x -> x.reading(-1, what));
            Trial.refused("reading behind the last, " + what, INDEX, x -> x.reading(x.count(2), what));
            Trial.refused("reading(12, " + what + ")", INDEX, x -> x.reading(12, what));
            Trial.refusedIn(States::fresh, "reading of none, " + what, INDEX, x -> x.reading(0, what));
        }
        for (int reading : FAR) {
            Trial.refused("reading(" + reading + ", 8)", INDEX, x -> x.reading(reading, 8));
        }
    }

    private static void readingOutOfRange() {
        Doc.of(READING, "Throws `IllegalArgumentException` if what is not 0 to 10");
        for (States.Maker state : new States.Maker[] {States::used, States::full, States::undone}) {
            for (int what : new int[] {-1, 11, Integer.MIN_VALUE, Integer.MAX_VALUE}) {
                Trial.refusedIn(state, "reading(0, " + what + ")", ARGUMENT, x -> x.reading(0, what));
                Trial.refusedIn(state, "reading of the last, " + what, ARGUMENT, x -> x.reading(x.count(2) - 1, what));
            }
        }
    }

    private static void flowsOfTheWholeAndHalves() {
        Doc.of(FLOW, "`what`: 0: the whole, 1: the inner half, 2: the outer half; 3: the whole as it would be told by "
            + "the true speeds of all holes");
        DuctRake x = new DuctRake();
        Check.load(x, "100,400,900,1600");
        x.set(3, 0);
        int[] due = {25000 + 50000 + 75000 + 100000, 25000 + 50000, 75000 + 100000,
            172000 + 151200 + 136800 + 125600};
        for (int what = 0; what <= 3; what++) {
            Check.same("flow(" + what + ")", x.flow(what), due[what]);
        }
        x.rake(3);
        x.set(0, 100);
        x.set(1, 0);
        // Each ring by itself: 100 times 100, divided by 3.
        Check.same("true whole of three rounded rings", x.flow(3), 3 * 3333);
        x.set(0, 0);
        Check.same("no true flow", x.flow(3), 0);
        x.radius(500);
        x.rake(8);
        x.set(0, 20000);
        Check.same("the greatest even flow", x.flow(3), 50000000);
        x.block(0, 0);
        fail(x, 1);
        Check.same("whatever the holes are like", x.flow(3), 50000000);
    }

    private static void flowWithoutATrustedHole() {
        Doc.of(FLOW, "Returns the flow; NONE for 0 to 2 if no hole is trusted.");
        DuctRake x = new DuctRake();
        noFlow("no reading", x);
        Check.load(x, "0,0,0,0");
        noFlow("means of 0", x);
        Check.load(x, "2,0,0,0");
        Check.same("one is trusted", x.flow(0), 10000);
        Check.same("it tells the inner half", x.flow(1), 5000);
        Check.same("and the outer half", x.flow(2), 5000);
        fail(x, 0);
        noFlow("it failed", x);
        x.clean(0);
        x.radius(101);
        noFlow("no reading at 101", x);
        x.radius(100);
        x.rake(3);
        noFlow("no reading of three", x);
    }

    private static void noFlow(String when, DuctRake x) {
        for (int what = 0; what <= 2; what++) {
            Check.same(when + ": flow(" + what + ")", x.flow(what), -1);
        }
        Check.holds(when + ": flow(3) is there", x.flow(3) > 0);
    }

    private static void flowOutOfRange() {
        Doc.of(FLOW, "Throws `IllegalArgumentException` if what is not 0 to 3");
        for (int what : new int[] {-1, 4, Integer.MIN_VALUE, Integer.MAX_VALUE}) {
            Trial.refused("flow(" + what + ")", ARGUMENT, x -> x.flow(what));
        }
    }

    private static void countsOfTheDuct() {
        Doc.of(COUNT, "`what`: 0: holes; 1: the radius;");
        DuctRake x = new DuctRake();
        int[][] due = {{2, 50}, {8, 500}, {4, 100}};
        for (int[] row : due) {
            x.rake(row[0]);
            x.radius(row[1]);
            Check.same("holes", x.count(0), row[0]);
            Check.same("radius", x.count(1), row[1]);
        }
    }

    private static void countsOfReadings() {
        Doc.of(COUNT, "2: readings kept; 3: those that count;");
        DuctRake x = new DuctRake();
        Check.same("none is kept", x.count(2), 0);
        Check.same("none counts", x.count(3), 0);
        Check.load(x, "1,2,3");
        Check.same("one is kept", x.count(2), 1);
        Check.same("it does not count", x.count(3), 0);
        for (int i = 1; i <= 11; i++) {
            x.read();
            Check.same("kept", x.count(2), i + 1);
            Check.same("count", x.count(3), i);
        }
        x.read();
        Check.same("twelve are kept", x.count(2), 12);
        Check.same("twelve count", x.count(3), 12);
        x.read();
        Check.same("twelve are kept still", x.count(2), 12);
        Check.same("twelve count still", x.count(3), 12);
    }

    private static void countsOfHoles() {
        Doc.of(COUNT, "4: trusted holes; 5 to 8: holes that are suspect by the reasons 1 to 4;");
        DuctRake x = new DuctRake();
        x.rake(8);
        holes("no reading", x, 0, 8, 0, 0, 0);
        Check.load(x, "100,100,100,100,100,100,100,100");
        holes("all trusted", x, 8, 0, 0, 0, 0);
        Check.load(x, "0,0,0,0,0,0,0,100");
        holes("just half of the greatest", x, 8, 0, 0, 0, 0);
        x.drop(0);
        holes("seven of 0", x, 1, 0, 7, 0, 0);
        x.drop(0);
        Check.load(x, "0,1,49,100,50,99,0,100");
        fail(x, 7);
        fail(x, 1);
        holes("each", x, 3, 0, 2, 2, 1);
        for (int k = 0; k < 8; k++) {
            fail(x, k);
        }
        holes("all failed", x, 0, 0, 2, 2, 4);
        x.radius(101);
        holes("no reading at 101", x, 0, 8, 0, 0, 0);
    }

    private static void holes(String when, DuctRake x, int... due) {
        for (int i = 0; i < due.length; i++) {
            Check.same(when + ": count(" + (4 + i) + ")", x.count(4 + i), due[i]);
        }
    }

    private static void countsOfWork() {
        Doc.of(COUNT, "9: all work so far; 10: work of readings so far; 11: work for holes of rakes that were taken "
            + "out, so far;");
        DuctRake x = new DuctRake();
        work("at first", x, 0, 0, 0);
        x.test(0);
        x.clean(3);
        work("of holes that are in", x, 5, 0, 0);
        x.read();
        x.drop(0);
        work("of a reading that is dropped", x, 10, 5, 0);
        x.rake(2);
        work("taken out", x, 10, 5, 5);
        x.test(1);
        work("of a new hole", x, 13, 5, 5);
        x.rake(2);
        work("taken out, too", x, 13, 5, 8);
        x.undo();
        work("undo", x, 13, 5, 5);
    }

    private static void work(String when, DuctRake x, int all, int ofReadings, int ofOldRakes) {
        Check.same(when + ": all work", x.count(9), all);
        Check.same(when + ": work of readings", x.count(10), ofReadings);
        Check.same(when + ": work for holes that were taken out", x.count(11), ofOldRakes);
    }

    private static void countsOfReadingsSoFar() {
        Doc.of(COUNT, "12: readings so far;");
        DuctRake x = new DuctRake();
        Check.same("none", x.count(12), 0);
        for (int i = 1; i <= 13; i++) {
            x.read();
            Check.same("so far", x.count(12), i);
        }
        Check.load(x, "1");
        Check.same("also those of texts", x.count(12), 14);
        x.drop(0);
        Check.same("also those that are dropped", x.count(12), 14);
        x.undo();
        x.undo();
        Check.same("not those that are taken back", x.count(12), 13);
    }

    private static void countsOfSavedStates() {
        Doc.of(COUNT, "13: saved states");
        DuctRake x = new DuctRake();
        Check.same("none", x.count(13), 0);
        for (int i = 1; i <= 8; i++) {
            x.test(0);
            Check.same("saved", x.count(13), Math.min(i, 6));
        }
        for (int left = 5; left >= 0; left--) {
            x.undo();
            Check.same("left", x.count(13), left);
        }
    }

    private static void countOutOfRange() {
        Doc.of(COUNT, "Throws `IllegalArgumentException` if what is not 0 to 13");
        for (int what : new int[] {-1, 14, Integer.MIN_VALUE, Integer.MAX_VALUE}) {
            Trial.refused("count(" + what + ")", ARGUMENT, x -> x.count(what));
        }
    }

    private static void firstAndLastSetting() {
        Doc.of(SETTING, "`setting`: 0 to 4");
        Doc.noEdge(SETTING, "Returns its value.");
        DuctRake x = new DuctRake();
        int[] first = {8000, 40, 0, 50, 5};
        int[] most = {20000, 100, 2000, 100, 50};
        for (int setting = 0; setting <= 4; setting++) {
            Check.same("at first", x.setting(setting), first[setting]);
            x.set(setting, most[setting]);
            Check.same("most", x.setting(setting), most[setting]);
            x.set(setting, 0);
            Check.same("least", x.setting(setting), 0);
        }
    }

    private static void settingOfNoSetting() {
        Doc.of(SETTING, "Throws `IndexOutOfBoundsException` if there is no such setting");
        for (int setting : new int[] {-1, 5, Integer.MIN_VALUE, Integer.MAX_VALUE}) {
            Trial.refused("setting(" + setting + ")", INDEX, x -> x.setting(setting));
        }
    }

    private LookEdges() {
    }
}
