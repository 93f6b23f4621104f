import java.util.ArrayList;
import java.util.List;

/** Tries calls in objects of every kind, each beside a twin without the call. */
final class Trial {
    interface Use {
        void on(DuctRake x);
    }

    /** The call throws just this exception, and nothing of the object changes. */
    static void refused(String call, Class<? extends RuntimeException> due, Use use) {
        for (States.Maker state : States.ALL) {
            refusedIn(state, call, due, use);
        }
    }

    static void refusedIn(States.Maker state, String call, Class<? extends RuntimeException> due, Use use) {
        DuctRake x = state.make();
        Check.throwsOnly(call, due, () -> use.on(x));
        Check.holds(call + " changed something", wholeOf(x).equals(wholeOf(state.make())));
    }

    static void changesNothing(String call, Use use) {
        for (States.Maker state : States.ALL) {
            DuctRake x = state.make();
            use.on(x);
            Check.holds(call + " changed something", wholeOf(x).equals(wholeOf(state.make())));
        }
    }

    /** The call saves the state from before it, and undo brings all of it back, but for the buffer. */
    static void undoable(String call, Use use) {
        for (States.Maker state : States.ALL) {
            undoableIn(state, call, use);
        }
    }

    static void undoableIn(States.Maker state, String call, Use use) {
        DuctRake x = state.make();
        DuctRake twin = state.make();
        int saved = x.count(13);
        use.on(x);
        Check.same("saved states after " + call, x.count(13), Math.min(saved + 1, 6));
        x.undo();
        if (saved == 6) {
            // The oldest state that the twin has saved has to go, too.
            twin.set(0, twin.setting(0));
            twin.undo();
        }
        x.clearBuffer();
        twin.clearBuffer();
        Check.holds("undo did not take back " + call, wholeOf(x).equals(wholeOf(twin)));
    }

    /** The call is not undoable: the saved states are what they were. */
    static void savesNothing(String call, Use use) {
        for (States.Maker state : States.ALL) {
            DuctRake x = state.make();
            DuctRake twin = state.make();
            use.on(x);
            Check.same("saved states after " + call, x.count(13), twin.count(13));
            while (twin.count(13) > 0) {
                Check.same("undo after " + call, x.undo(), twin.undo());
                for (int what = 0; what <= 13; what++) {
                    Check.same("count after " + call + ", undo", x.count(what), twin.count(what));
                }
            }
        }
    }

    /** What an object can tell of its state, each saved state and each slot: this uses it up. */
    private static List<Long> wholeOf(DuctRake x) {
        List<Long> whole = new ArrayList<>();
        whole.add(x.digest());
        for (int left = x.count(13); left > 0; left--) {
            x.undo();
            whole.add(x.digest());
        }
        for (int slot = 0; slot < 2; slot++) {
            try {
                x.goBack(slot);
                whole.add(x.digest());
            } catch (IllegalStateException e) {
                whole.add(-1L);
            }
        }
        return whole;
    }

    private Trial() {
    }
}
