/** Promises 11 to 14: the buffer, and readings as texts. */
public final class TextTest {
    private static final Class<IllegalArgumentException> ARGUMENT = IllegalArgumentException.class;
    private static final Class<IllegalStateException> STATE = IllegalStateException.class;

    public static void main(String[] args) {
        append();
        clearBuffer();
        firstError();
        load();
        loadDropsTheOldest();
        Check.end();
    }

    private static void append() {
        DuctRake x = new DuctRake();
        for (int code : new int[] {32, 127, 0, -1, 300, Integer.MIN_VALUE, Integer.MAX_VALUE}) {
            Check.refused("append " + code, x, ARGUMENT, () -> x.append(code));
        }
        Check.same("append(33)", x.append(33), 1);
        Check.same("append(126)", x.append(126), 2);
        for (int i = 3; i <= 50; i++) {
            Check.same("append " + i, x.append('7'), i);
        }
        Check.refused("append 51", x, STATE, () -> x.append('7'));
        Check.refused("append 51, both wrong", x, ARGUMENT, () -> x.append(32));
        Check.same("not undoable", x.count(13), 0);
    }

    private static void clearBuffer() {
        DuctRake x = new DuctRake();
        Check.same("empty", x.clearBuffer(), 0);
        Check.append(x, "12,!");
        Check.same("full", x.clearBuffer(), 4);
        Check.same("empty again", x.clearBuffer(), 0);
        Check.same("append after", x.append('1'), 1);
        Check.same("not undoable", x.count(13), 0);
    }

    private static void firstError() {
        error("", 0);
        error("0", 1);
        error("00", 1);
        error("05", 1);
        error("10", 2);
        error(",", 0);
        error("1,", 2);
        error("1,,", 2);
        error("1,0", 3);
        error("1,00", 3);
        error("1,02", 3);
        error("0,0", 3);
        error("99999", 5);
        error("100000", 5);
        error("1,123456", 7);
        error("1,12345,1", 9);
        error("1;2", 1);
        error("-1", 0);
        error("/", 0);
        error(":", 0);
        error("9:", 1);
        error("9/", 1);
        error("1+", 1);
        error("a", 0);
        error("~", 0);
        error("1,2,3,4,5,6,7,8", 15);
        error("1,2,3,4,5,6,7,8,", 15);
        error("1,2,3,4,5,6,7,8,9", 15);
        error("1,2,3,4,5,6,7,", 14);
        error("99999,99999,99999,99999,99999,99999,99999,99999", 47);
        error("99999,99999,99999,99999,99999,99999,99999,999999", 47);
        error("99999,99999,99999,99999,99999,99999,99999,99999,", 47);
        error("x1,2", 0);
    }

    private static void error(String text, int due) {
        DuctRake x = new DuctRake();
        Check.append(x, text);
        Check.same("firstError of " + text, x.firstError(), due);
        Check.same("the buffer stays", x.clearBuffer(), text.length());
        Check.same("not undoable", x.count(13), 0);
    }

    private static void load() {
        for (String text : new String[] {"", ",", "1,", "00", "100000", "1,2,3,4,5,6,7,8,9", "1,2,3,4,5,6,7,8,", "a", "1a", "1,,2"}) {
            DuctRake x = new DuctRake();
            Check.append(x, text);
            Check.refused("load of " + text, x, ARGUMENT, x::load);
            Check.same("the buffer stays", x.clearBuffer(), text.length());
        }
        DuctRake x = new DuctRake();
        Check.append(x, "0,99999,10,4733");
        Check.same("load", x.load(), 4);
        int[] due = {0, 99999, 10, 4733, -1, -1, -1, -1, 4, 100, 1};
        for (int what = 0; what < due.length; what++) {
            Check.same("reading " + what, x.reading(0, what), due[what]);
        }
        Check.same("the buffer is clear", x.clearBuffer(), 0);
        Check.same("work", x.count(10), 5);
        Check.same("readings so far", x.count(12), 1);
        Check.same("undoable", x.count(13), 1);
        x.radius(77);
        Check.append(x, "7");
        Check.same("load of one head", x.load(), 1);
        Check.same("a shorter reading has no old heads", x.reading(1, 1), -1);
        Check.same("radius of then", x.reading(1, 9), 77);
        Check.same("does not count", x.reading(1, 10), 0);
        Check.append(x, "99999,99999,99999,99999,99999,99999,99999,99999");
        Check.same("load of eight", x.load(), 8);
        Check.same("the eighth", x.reading(2, 7), 99999);
        Check.append(x, "12");
        x.undo();
        Check.same("undo leaves the buffer", x.clearBuffer(), 2);
        Check.same("undo takes the reading back", x.count(2), 2);
    }

    private static void loadDropsTheOldest() {
        DuctRake x = new DuctRake();
        for (int i = 0; i < 15; i++) {
            Check.append(x, Integer.toString(i));
            Check.same("load " + i, x.load(), 1);
        }
        Check.same("kept", x.count(2), 12);
        Check.same("the oldest", x.reading(0, 0), 3);
        Check.same("the newest", x.reading(11, 0), 14);
        Check.same("so far", x.count(12), 15);
        Check.same("work", x.count(9), 75);
    }
}
