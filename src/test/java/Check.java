/** Compares answers with those that are due, and ends a test's run. */
final class Check {
    interface Call {
        void run();
    }

    private static int checks;
    private static int wrong;
    private static String words = "";

    static int count() {
        return checks;
    }

    /** What fails from here on is reported with these words of the document. */
    static void nowFor(String wordsOfTheDocument) {
        words = wordsOfTheDocument;
    }

    static void same(String call, long got, long due) {
        checks++;
        if (got != due) {
            report(call + " answered " + got + ", due is " + due);
        }
    }

    static void sameShare(String call, double got, double due) {
        checks++;
        if (Double.doubleToLongBits(got) != Double.doubleToLongBits(due)) {
            report(call + " answered " + got + ", due is " + due);
        }
    }

    static void holds(String what, boolean is) {
        checks++;
        if (!is) {
            report(what);
        }
    }

    /** The call has to throw just this exception, and to leave the object as it was. */
    static void refused(String call, DuctRake x, Class<? extends RuntimeException> due, Call run) {
        long before = x.digest();
        throwsOnly(call, due, run);
        same("digest after " + call, x.digest(), before);
    }

    static void throwsOnly(String call, Class<? extends RuntimeException> due, Call run) {
        checks++;
        String got = "nothing";
        try {
            run.run();
        } catch (RuntimeException e) {
            got = e.getClass().getName();
        }
        if (!got.equals(due.getName())) {
            report(call + " threw " + got + ", due is " + due.getName());
        }
    }

    static void append(DuctRake x, String text) {
        for (char c : text.toCharArray()) {
            x.append(c);
        }
    }

    /** Puts a reading in as a text, so that its heads are just these. */
    static void load(DuctRake x, String text) {
        x.clearBuffer();
        append(x, text);
        x.load();
    }

    static void end() {
        System.out.println(checks + " checks, " + wrong + " wrong");
        if (wrong != 0) {
            System.exit(1);
        }
    }

    private static void report(String text) {
        wrong++;
        System.out.println((words.isEmpty() ? "" : "[" + words + "] ") + text);
    }

    private Check() {
    }
}
