/** Compares answers with those that are due, and ends a test's main method by what it saw. */
final class Due {
    private final String test;
    private int seen = 0;
    private int wrong = 0;

    Due(String test) {
        this.test = test;
    }

    void answer(String call, long got, long want) {
        seen++;
        if (got != want) {
            wrong++;
            System.out.println(test + ": " + call + " answered " + got + ", due is " + want);
        }
    }

    /**
     * The class must be the very one: the document names it, and no other may reach the caller. The
     * machine's own message tells that an index was used before it was looked at.
     */
    void noSuchTray(String call, Runnable caller) {
        String got = "nothing";
        try {
            caller.run();
        } catch (RuntimeException e) {
            got = e.getClass().getName();
            if (e.getMessage() != null && e.getMessage().startsWith("Index ")) {
                got = got + " of the machine's own";
            }
        }
        seen++;
        if (!got.equals("java.lang.ArrayIndexOutOfBoundsException")) {
            wrong++;
            System.out.println(test + ": " + call + " threw " + got + ", due is ArrayIndexOutOfBoundsException");
        }
    }

    void end() {
        System.out.println(test + ": " + seen + " answers, " + wrong + " not as due");
        if (wrong > 0 || seen == 0) {
            System.exit(1);
        }
    }
}
