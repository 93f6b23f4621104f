import java.math.BigInteger;
import java.util.ArrayList;
import java.util.List;

/** The edges that promise 28 names: the hash of the whole state. */
final class DigestEdges {
    private static final String DIGEST = "Promise 28";

    static void run() {
        digestOfANewObject();
        digestGoesRound();
        digestOfEachState();
        digestOfCounts();
        digestOfSlots();
        digestOfTheBuffer();
        digestOfFineRake();
        digestOfEvenness();
        digestIsTheSameAgain();
    }

    /** The hash of these values, by numbers that have no bound, and brought into 64 bits in the end. */
    private static long hashOf(List<Long> values) {
        BigInteger hash = BigInteger.valueOf(3167);
        for (long value : values) {
            hash = hash.multiply(BigInteger.valueOf(31)).add(BigInteger.valueOf(value));
        }
        return hash.longValue();
    }

    private static List<Long> listOf(long... values) {
        List<Long> list = new ArrayList<>();
        for (long value : values) {
            list.add(value);
        }
        return list;
    }

    private static void digestOfANewObject() {
        Doc.of(DIGEST, "Computes a hash of the whole state. The hash starts at 3167.");
        List<Long> values = listOf(4, 100, 0, 0, 0, 4, 0, 0, 0, 0, 0, 0, 0, 0, 8000, 40, 0, 50, 5);
        long[][] holes = {{35, 6880, 4733}, {61, 6048, 3657}, {79, 5472, 2994}, {93, 5024, 2524}};
        for (long[] hole : holes) {
            values.addAll(listOf(hole[0], 100, 0, 0, hole[1], hole[2], hole[2], -1, 1, -1, -1, 0, -1));
        }
        values.addAll(listOf(-1, -1, -1, 585600, -1));
        values.addAll(listOf(582400, 585600, 585600, 587520, 587198, 587427, 587200, 5));
        values.addAll(listOf(0, 0, 0, 0));
        Check.same("digest of a new object", new DuctRake().digest(), hashOf(values));
    }

    /** The values of the list, as the calls answer them. */
    private static List<Long> valuesOf(DuctRake x, int slot0, int slot1, String buffer) {
        List<Long> values = new ArrayList<>();
        for (int what = 0; what <= 13; what++) {
            values.add((long) x.count(what));
        }
        for (int setting = 0; setting <= 4; setting++) {
            values.add((long) x.setting(setting));
        }
        for (int k = 0; k < x.count(0); k++) {
            for (int what = 0; what <= 11; what++) {
                values.add((long) x.hole(k, what));
            }
            values.add((long) x.ifRight(k));
        }
        for (int i = 0; i < x.count(2); i++) {
            for (int what = 0; what <= 10; what++) {
                values.add((long) x.reading(i, what));
            }
        }
        for (int what = 0; what <= 3; what++) {
            values.add((long) x.flow(what));
        }
        values.add((long) x.worst());
        for (int holes = 2; holes <= 8; holes++) {
            values.add((long) x.ifRake(holes));
        }
        values.add((long) x.fineRake(1000));
        values.add(Double.doubleToLongBits(x.evenness()));
        values.addAll(listOf(slot0, slot1, buffer.length()));
        for (char c : buffer.toCharArray()) {
            values.add((long) c);
        }
        return values;
    }

    private static void digest(String state, DuctRake x, int slot0, int slot1, String buffer) {
        long due = hashOf(valuesOf(x, slot0, slot1, buffer));
        Check.same("digest of " + state, x.digest(), due);
    }

    private static void digestGoesRound() {
        Doc.of(DIGEST, "For each value v of the following list, in order, the hash becomes 31 * hash + v, in long "
            + "arithmetic with overflow.");
        List<Long> values = valuesOf(States.full(), 1, 1, "");
        BigInteger hash = BigInteger.valueOf(3167);
        for (long value : values) {
            hash = hash.multiply(BigInteger.valueOf(31)).add(BigInteger.valueOf(value));
        }
        Check.holds("the hash is far beyond a long", hash.bitLength() > 1000);
        DuctRake x = States.full();
        x.clearBuffer();
        Check.same("what is beyond is left out", x.digest(), hash.longValue());
    }

    private static void digestOfEachState() {
        Doc.of(DIGEST, "The values are: count(0) to count(13); the settings 0 to 4; for each hole its properties 0 to "
            + "11, and ifRight; for each reading its numbers 0 to 10; flow of 0 to 3; worst; ifRake of 2 to 8; "
            + "fineRake of 1000;");
        digest("a new object", States.fresh(), 0, 0, "");
        digest("a used one", States.used(), 0, 1, "12,");
        digest("a full one", States.full(), 1, 1, "99999,99999,99999,99999,99999,99999,99999,99999,12");
        digest("one that is undone", States.undone(), 1, 1, "0");
        DuctRake x = new DuctRake();
        x.rake(2);
        digest("two holes", x, 0, 0, "");
        x.rake(8);
        digest("eight holes", x, 0, 0, "");
    }

    private static void digestOfCounts() {
        Doc.of(DIGEST, "count(0) to count(13)");
        for (int i = 0; i <= 7; i++) {
            DuctRake x = new DuctRake();
            for (int k = 0; k < i; k++) {
                x.set(0, 8000);
            }
            Check.same("saved states", x.count(13), Math.min(i, 6));
            digest("saved states after " + i, x, 0, 0, "");
        }
    }

    private static void digestOfSlots() {
        Doc.of(DIGEST, "for each slot 1 if it has a snapshot, otherwise 0;");
        DuctRake x = new DuctRake();
        x.keep(0);
        digest("slot 0", x, 1, 0, "");
        x.keep(0);
        digest("slot 0 again", x, 1, 0, "");
        DuctRake y = new DuctRake();
        y.keep(1);
        digest("slot 1", y, 0, 1, "");
        y.keep(0);
        digest("both", y, 1, 1, "");
        y.goBack(0);
        digest("it stays", y, 1, 1, "");
        y.undo();
        digest("undo", y, 1, 1, "");
    }

    private static void digestOfTheBuffer() {
        Doc.of(DIGEST, "the length of the buffer and each of its character codes.");
        StringBuilder text = new StringBuilder();
        for (int i = 0; i <= 50; i++) {
            DuctRake x = new DuctRake();
            Check.append(x, text.toString());
            digest("a buffer of " + i, x, 0, 0, text.toString());
            x.clearBuffer();
            digest("a buffer that was cleared", x, 0, 0, "");
            text.append((char) (i % 2 == 0 ? 33 + i : 126 - i));
        }
    }

    private static void digestOfFineRake() {
        Doc.of(DIGEST, "fineRake of 1000;");
        int[][] flows = {{19907, 10, 999}, {15430, 13, 1001}};
        for (int[] flow : flows) {
            DuctRake x = new DuctRake();
            x.radius(50);
            x.set(0, flow[0]);
            x.set(1, flow[1]);
            Check.holds("that of " + flow[2] + " is another", x.fineRake(flow[2]) != x.fineRake(1000));
            digest("a flow with an edge at 1000", x, 0, 0, "");
        }
    }

    private static void digestOfEvenness() {
        Doc.of(DIGEST, "the bits of evenness (as Double.doubleToLongBits);");
        String[] readings = {"0,0", "1,1", "1,2", "1,4", "1,99999", "99998,99999", "50000,99999", "1,3", "4,9", "95,99",
            "99000,99999"};
        for (String reading : readings) {
            DuctRake x = new DuctRake();
            x.rake(2);
            x.set(3, 0);
            Check.load(x, reading);
            digest("evenness " + x.evenness(), x, 0, 0, "");
        }
    }

    private static void digestIsTheSameAgain() {
        Doc.of(DIGEST, "Returns the hash.");
        DuctRake x = States.full();
        long first = x.digest();
        Check.same("again", x.digest(), first);
        x.worst();
        x.ifRight(0);
        Check.same("after looks", x.digest(), first);
        Check.same("of another in the same state", States.full().digest(), first);
    }

    private DigestEdges() {
    }
}
