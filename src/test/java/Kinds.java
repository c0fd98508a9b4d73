/** The kinds of rules by their numbers in the document, with the range of a (and of b, where there is one). */
final class Kinds {
    static final int SIZE = 0;
    static final int WEIGHT = 1;
    static final int GOODS = 2;
    static final int LOTS = 3;
    static final int OWNERS = 4;
    static final int HAZARD = 5;
    static final int ZONE = 6;
    static final int UNITS = 7;
    static final int DATES = 8;
    static final int DAYS = 9;
    static final int OWN = 10;

    static final int HOW_MANY = 11;
    static final int[] LEAST = {0, 0, 1, 1, 1, 0, 0, 1, 0, 0, 0};
    static final int[] MOST = {1, 100000, 20, 20, 20, 7, 7, 40, 1000, 1000, 3};
    static final String[] NAMES =
        {"size", "weight", "goods", "lots", "owners", "hazard", "zone", "units", "dates", "days", "own"};

    private Kinds() {
    }

    static boolean hasTwoNumbers(int kind) {
        return kind == HAZARD || kind == ZONE;
    }

    static int mostSecond(int kind) {
        return hasTwoNumbers(kind) ? 7 : 0;
    }
}
