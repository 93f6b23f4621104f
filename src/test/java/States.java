/** Objects of every kind, the same each time: what a call has to leave alone is looked at in all of them. */
final class States {
    interface Maker {
        DuctRake make();
    }

    static final Maker[] ALL = {States::fresh, States::used, States::full, States::undone};

    static DuctRake fresh() {
        return new DuctRake();
    }

    /** Some of everything: 3 holes, 2 readings, 5 saved states, a snapshot in slot 1, half a reading as a text. */
    static DuctRake used() {
        DuctRake x = new DuctRake();
        x.read();
        x.rake(3);
        Check.load(x, "4000,3000,0");
        x.keep(1);
        x.undo();
        x.leak(2, 40);
        x.test(2);
        x.read();
        Check.append(x, "12,");
        return x;
    }

    /** What can be full is full: 8 holes, 12 readings, 6 saved states, both slots, 50 characters. */
    static DuctRake full() {
        DuctRake x = new DuctRake();
        x.rake(8);
        x.radius(500);
        x.keep(0);
        x.block(7, 0);
        x.leak(6, 100);
        x.test(6);
        for (int i = 0; i < 13; i++) {
            x.set(0, 20000 - i);
            x.read();
        }
        x.clean(6);
        x.keep(1);
        x.block(5, 95);
        x.read();
        Check.append(x, "99999,99999,99999,99999,99999,99999,99999,99999,12");
        return x;
    }

    /** A used object of which no saved state is left; its buffer tells a reading as a text. */
    static DuctRake undone() {
        DuctRake x = new DuctRake();
        x.read();
        x.rake(5);
        x.block(1, 50);
        x.test(4);
        x.read();
        x.keep(0);
        x.set(3, 0);
        x.radius(51);
        x.read();
        x.keep(1);
        while (x.count(13) > 0) {
            x.undo();
        }
        Check.append(x, "0");
        return x;
    }

    private States() {
    }
}
