/** Promise 28: the hash of the whole state. */
public final class DigestTest {
    public static void main(String[] args) {
        DuctRake x = new DuctRake();
        compare("a new object", x, 0, 0, "");
        Check.append(x, "1,~");
        compare("a buffer", x, 0, 0, "1,~");
        x.keep(1);
        compare("slot 1", x, 0, 1, "1,~");
        x.keep(0);
        compare("both slots", x, 1, 1, "1,~");
        withReadings();
        evennessBits();
        fineRakeOfJustThousand();
        thirdAndAgain();
        Check.end();
    }

    private static void withReadings() {
        DuctRake x = new DuctRake();
        x.keep(0);
        x.keep(1);
        x.rake(7);
        x.radius(333);
        x.block(2, 44);
        x.block(5, 0);
        x.leak(3, 21);
        x.test(3);
        x.read();
        x.read();
        Check.load(x, "5,60,700,8000,90000,1,2");
        compare("readings", x, 1, 1, "");
        x.rake(3);
        x.set(3, 0);
        Check.load(x, "900,400,100");
        compare("another rake", x, 1, 1, "");
    }

    private static void thirdAndAgain() {
        DuctRake x = new DuctRake();
        x.rake(3);
        x.set(3, 0);
        Check.load(x, "900,400,100");
        Check.sameShare("a share that is not exact", x.evenness(), 1.0 / 3.0);
        compare("a share that is not exact", x, 0, 0, "");
        Check.same("digest is the same again", x.digest(), x.digest());
        Check.same("digest is not undoable", x.count(13), 3);
    }

    /** All ratios of speeds here have to come out as Double's own bits. */
    private static void evennessBits() {
        int[] heads = {1, 2, 3, 7, 10, 99, 1234, 4733, 6400, 9999, 50000, 99998, 99999};
        for (int least : heads) {
            for (int greatest : heads) {
                DuctRake x = new DuctRake();
                x.rake(2);
                x.set(3, 0);
                Check.load(x, least + "," + greatest);
                compare("heads " + least + ", " + greatest, x, 0, 0, "");
            }
        }
    }

    /** Flows for which fineRake(1000) is not that of 999, and not that of 1001. */
    private static void fineRakeOfJustThousand() {
        int[][] flows = {{19907, 10, 999}, {15430, 13, 1001}};
        for (int[] flow : flows) {
            DuctRake x = new DuctRake();
            x.radius(50);
            x.set(0, flow[0]);
            x.set(1, flow[1]);
            Check.holds("fineRake differs at " + flow[2], x.fineRake(1000) != x.fineRake(flow[2]));
            compare("an edge of fineRake", x, 0, 0, "");
        }
    }

    private static void compare(String state, DuctRake x, int slot0, int slot1, String buffer) {
        long hash = 3167;
        for (int what = 0; what <= 13; what++) {
            hash = 31 * hash + x.count(what);
        }
        for (int setting = 0; setting < 5; setting++) {
            hash = 31 * hash + x.setting(setting);
        }
        for (int k = 0; k < x.count(0); k++) {
            for (int what = 0; what <= 11; what++) {
                hash = 31 * hash + x.hole(k, what);
            }
            hash = 31 * hash + x.ifRight(k);
        }
        for (int i = 0; i < x.count(2); i++) {
            for (int what = 0; what <= 10; what++) {
                hash = 31 * hash + x.reading(i, what);
            }
        }
        for (int what = 0; what <= 3; what++) {
            hash = 31 * hash + x.flow(what);
        }
        hash = 31 * hash + x.worst();
        for (int holes = 2; holes <= 8; holes++) {
            hash = 31 * hash + x.ifRake(holes);
        }
        hash = 31 * hash + x.fineRake(1000);
        hash = 31 * hash + Double.doubleToLongBits(x.evenness());
        hash = 31 * hash + slot0;
        hash = 31 * hash + slot1;
        hash = 31 * hash + buffer.length();
        for (char c : buffer.toCharArray()) {
            hash = 31 * hash + c;
        }
        Check.same("digest of " + state, x.digest(), hash);
    }
}
