/** Counts and prints answers that are not the ones that are due. */
final class Check {
    interface Call {
        long answer();
    }

    interface Act {
        void run();
    }

    interface Asked {
        long answer(PlaceRules x);
    }

    private int wrong;
    private int asked;
    private String part = "";

    void part(String name) {
        part = name;
    }

    /** What follows is a test of this sentence of the document, told with its own words. */
    void sentence(int promise, String words) {
        part = "promise " + promise + ", '" + words + "'";
    }

    void due(String call, long want, long got) {
        asked++;
        if (got != want) {
            tell(call + " answered " + got + ", due is " + want);
        }
    }

    void throwing(String call, Class<? extends RuntimeException> want, Act act) {
        asked++;
        Class<?> got = null;
        try {
            act.run();
        } catch (RuntimeException e) {
            got = e.getClass();
        }
        if (got != want) {
            tell(call + " threw " + got + ", due is " + want);
        }
    }

    void that(String what, boolean holds) {
        asked++;
        if (!holds) {
            tell(what);
        }
    }

    void end() {
        System.out.println(wrong == 0 ? asked + " answers are as due" : wrong + " answers are not as due");
        if (wrong != 0) {
            System.exit(1);
        }
    }

    private void tell(String text) {
        wrong++;
        if (wrong <= 50) {
            System.out.println(part + ": " + text);
        }
    }
}
