import java.util.NoSuchElementException;

/**
 * Refused calls: each throws what the document names, the first that holds, and the object answers afterwards as if
 * the call had not been made. What else stands in a refused call would show if it were taken.
 */
public final class RefusalTest {
    private static final Class<NoSuchElementException> NO_SUCH = NoSuchElementException.class;
    private static final Class<IllegalArgumentException> ARGUMENT = IllegalArgumentException.class;
    private static final Class<IllegalStateException> STATE = IllegalStateException.class;
    private static final Class<UnsupportedOperationException> NO_ROOM = UnsupportedOperationException.class;

    private static final int UNITS = 6;
    private static final int RULES = 13;
    // Unit 0 stands nowhere, unit 4 at place 0, unit 5 at place 5.
    private static final int FREE = 0;
    private static final int STANDING = 4;

    private final Check check = new Check();
    private final Twins busy = new Twins(check, RefusalTest::busy);
    private final Twins empty = new Twins(check, x -> { });

    public static void main(String[] args) {
        RefusalTest test = new RefusalTest();
        test.promise2Place();
        test.promise3Limit();
        test.promise4Unit();
        test.promise4NoRoom();
        test.promise5Size();
        test.promise6Nature();
        test.promise7Rule();
        test.promise7NoRoom();
        test.promise10Own();
        test.promise11Except();
        test.promise11NoRoom();
        test.promise12May();
        test.promise13Explain();
        test.promise14Put();
        test.promise15Take();
        test.promise16Turned();
        test.promise17Never();
        test.promise18Clash();
        test.promise19At();
        test.promise20Count();
        test.nothingThereYet();
        test.whatIsOnlyTold();
        test.check.end();
    }

    /** Every kind of rule, exceptions, a clash, signs, units that stand and one that does not, and a question. */
    private static void busy(PlaceRules x) {
        x.place(0, 300, 200, 100);
        x.place(1, 299, 200, 100);
        x.place(2, 300, 199, 100);
        x.place(3, 300, 200, 99);
        x.limit(0, 5000, 3);
        x.limit(11, 1000, 7);
        int[][] units = {{1, 1, 1}, {1, 2, 1}, {2, 1, 2}, {2, 2, 7}, {3, 3, 3}, {1, 1, 0}};
        for (int[] u : units) {
            x.unit(u[0], u[1], u[2]);
        }
        x.size(0, 300, 200, 100, 1500);
        x.size(1, 301, 200, 100, 999);
        x.size(2, 300, 201, 100, 5000);
        x.size(3, 300, 200, 101, 1);
        x.nature(0, 2, 3, 500);
        x.nature(5, 5, 0, 450);
        x.put(4, 0, 0);
        x.put(5, 5, 0);
        int[][] rules = {{10, Kinds.SIZE, 1, 0}, {5, Kinds.WEIGHT, 0, 0}, {10, Kinds.SIZE, 0, 0},
            {7, Kinds.GOODS, 1, 0}, {7, Kinds.LOTS, 1, 0}, {8, Kinds.OWNERS, 1, 0}, {20, Kinds.HAZARD, 2, 5},
            {20, Kinds.ZONE, 3, 3}, {30, Kinds.UNITS, 2, 0}, {30, Kinds.DATES, 100, 0}, {1, Kinds.DAYS, 50, 0},
            {100, Kinds.OWN, 0, 0}, {100, Kinds.OWN, 3, 0}};
        for (int[] r : rules) {
            x.rule(r[0], r[1], r[2], r[3]);
        }
        x.own(0, 2);
        x.own(3, 3);
        x.except(12, -1, -1, 50);
        x.except(11, 6, 1, 60);
        for (char c : "2 ow".toCharArray()) {
            x.sign(c);
        }
        x.may(0, 5, 100);
    }

    private static void withAllUnits(PlaceRules x) {
        busy(x);
        for (int i = UNITS; i < 40; i++) {
            x.unit(9, 9, 6);
        }
    }

    private static void withAllRules(PlaceRules x) {
        busy(x);
        for (int i = RULES; i < 24; i++) {
            x.rule(50 + i, Kinds.GOODS, 20, 0);
        }
    }

    private static void withAllExceptions(PlaceRules x) {
        busy(x);
        for (int i = 2; i < 20; i++) {
            x.except(8, i % 9, i / 9, 10);
        }
    }

    private static int[] outside(int least, int most) {
        return new int[] {least - 1, most + 1, Integer.MIN_VALUE, Integer.MAX_VALUE};
    }

    private static int[] below0() {
        return new int[] {-1, -2, Integer.MIN_VALUE};
    }

    private void promise2Place() {
        check.sentence(2, "A place's sizes. IllegalArgumentException.");
        for (int n : outside(0, 11)) {
            busy.refused("place " + n, ARGUMENT, x -> x.place(n, 1, 1, 1));
        }
        // Sizes that would let nothing in, and such that would let all in.
        for (int other : new int[] {1, 9999}) {
            for (int n : outside(1, 9999)) {
                busy.refused("width " + n, ARGUMENT, x -> x.place(0, n, other, other));
                busy.refused("depth " + n, ARGUMENT, x -> x.place(0, other, n, other));
                busy.refused("height " + n, ARGUMENT, x -> x.place(0, other, other, n));
            }
        }
    }

    private void promise3Limit() {
        check.sentence(3, "A place's limit (0 .. 10000000 grams) and zone. IllegalArgumentException.");
        for (int n : outside(0, 11)) {
            busy.refused("place " + n, ARGUMENT, x -> x.limit(n, 0, 1));
        }
        for (int n : outside(0, 10000000)) {
            busy.refused("grams " + n, ARGUMENT, x -> x.limit(0, n, 1));
        }
        for (int n : outside(0, 7)) {
            busy.refused("zone " + n + " with little grams", ARGUMENT, x -> x.limit(0, 0, n));
            busy.refused("zone " + n + " with many grams", ARGUMENT, x -> x.limit(11, 10000000, n));
        }
    }

    private void promise4Unit() {
        check.sentence(4, "IllegalArgumentException, UnsupportedOperationException.");
        for (int n : outside(0, 99)) {
            busy.refused("good " + n, ARGUMENT, x -> x.unit(n, 3, 3));
            busy.refused("lot " + n, ARGUMENT, x -> x.unit(3, n, 3));
        }
        for (int n : outside(0, 7)) {
            busy.refused("owner " + n, ARGUMENT, x -> x.unit(3, 3, n));
        }
    }

    private void promise4NoRoom() {
        check.sentence(4, "UNITS, at most 40, as they come");
        Twins full = new Twins(check, RefusalTest::withAllUnits);
        full.refused("unit 41", NO_ROOM, x -> x.unit(3, 3, 3));
        check.sentence(4, "REFUSALS, the first that holds: .. IllegalArgumentException .. no room");
        full.refused("unit 41 with a good 100", ARGUMENT, x -> x.unit(100, 3, 3));
        full.refused("unit 41 with a lot -1", ARGUMENT, x -> x.unit(3, -1, 3));
        full.refused("unit 41 with an owner 8", ARGUMENT, x -> x.unit(3, 3, 8));
    }

    private void promise5Size() {
        check.sentence(5, "NoSuchElementException: a unit or rule that there is not");
        for (int n : outside(0, UNITS - 1)) {
            busy.refused("unit " + n, NO_SUCH, x -> x.size(n, 1, 1, 1, 1));
            busy.refused("unit " + n + " with wrong numbers", NO_SUCH, x -> x.size(n, 0, 10000, -1, 0));
        }
        check.sentence(5, "width, depth, height 1 .. 9999, grams 1 .. 1000000");
        for (int other : new int[] {1, 9999}) {
            for (int n : outside(1, 9999)) {
                busy.refused("width " + n, ARGUMENT, x -> x.size(FREE, n, other, other, other));
                busy.refused("depth " + n, ARGUMENT, x -> x.size(FREE, other, n, other, other));
                busy.refused("height " + n, ARGUMENT, x -> x.size(FREE, other, other, n, other));
            }
            for (int n : outside(1, 1000000)) {
                busy.refused("grams " + n, ARGUMENT, x -> x.size(FREE, other, other, other, n));
            }
        }
        check.sentence(5, "IllegalStateException: it stands somewhere.");
        busy.refused("size of a unit that stands", STATE, x -> x.size(STANDING, 1, 1, 1, 1));
        busy.refused("the same size of a unit that stands", STATE, x -> x.size(STANDING, 100, 100, 100, 1000));
        check.sentence(5, "REFUSALS, the first that holds: .. IllegalArgumentException .. IllegalStateException");
        busy.refused("width 0 of a unit that stands", ARGUMENT, x -> x.size(STANDING, 0, 1, 1, 1));
        busy.refused("depth 10000 of a unit that stands", ARGUMENT, x -> x.size(STANDING, 1, 10000, 1, 1));
        busy.refused("height 0 of a unit that stands", ARGUMENT, x -> x.size(STANDING, 1, 1, 0, 1));
        busy.refused("grams 0 of a unit that stands", ARGUMENT, x -> x.size(STANDING, 1, 1, 1, 0));
    }

    private void promise6Nature() {
        check.sentence(6, "NoSuchElementException: a unit or rule that there is not");
        for (int n : outside(0, UNITS - 1)) {
            busy.refused("unit " + n, NO_SUCH, x -> x.nature(n, 7, 7, 0));
            busy.refused("unit " + n + " with wrong numbers", NO_SUCH, x -> x.nature(n, 8, -1, 1001));
        }
        check.sentence(6, "a hazard 0 .. 7, a class 0 .. 7, a last day 0 .. 1000");
        for (int n : outside(0, 7)) {
            busy.refused("hazard " + n, ARGUMENT, x -> x.nature(FREE, n, 7, 0));
            busy.refused("class " + n, ARGUMENT, x -> x.nature(FREE, 7, n, 0));
        }
        for (int n : outside(0, 1000)) {
            busy.refused("last day " + n, ARGUMENT, x -> x.nature(FREE, 7, 7, n));
        }
        check.sentence(6, "A unit's hazard, class and last day, likewise.");
        busy.refused("nature of a unit that stands", STATE, x -> x.nature(STANDING, 2, 3, 0));
        busy.refused("the same nature of a unit that stands", STATE, x -> x.nature(STANDING, 0, 0, 1000));
        check.sentence(6, "REFUSALS, the first that holds: .. IllegalArgumentException .. IllegalStateException");
        busy.refused("hazard 8 of a unit that stands", ARGUMENT, x -> x.nature(STANDING, 8, 3, 0));
        busy.refused("class -1 of a unit that stands", ARGUMENT, x -> x.nature(STANDING, 2, -1, 0));
        busy.refused("last day 1001 of a unit that stands", ARGUMENT, x -> x.nature(STANDING, 2, 3, 1001));
    }

    private void promise7Rule() {
        for (int k = 0; k < Kinds.HOW_MANY; k++) {
            int kind = k;
            int a = Kinds.LEAST[kind];
            String name = Kinds.NAMES[kind] + ", ";
            check.sentence(7, "a RANK 1 .. 100, a kind, numbers a and b");
            for (int n : outside(1, 100)) {
                busy.refused(name + "rank " + n, ARGUMENT, x -> x.rule(n, kind, a, 0));
            }
            check.sentence(7, "REFUSES .. " + Kinds.NAMES[kind] + ": .. a (" + a + " .. " + Kinds.MOST[kind] + ")");
            for (int n : outside(a, Kinds.MOST[kind])) {
                busy.refused(name + "a " + n, ARGUMENT, x -> x.rule(10, kind, n, 0));
            }
            check.sentence(7, "A rule (b is 0 for kinds that have one number): its number.");
            for (int n : outside(0, Kinds.mostSecond(kind))) {
                busy.refused(name + "b " + n, ARGUMENT, x -> x.rule(10, kind, a, n));
            }
        }
        check.sentence(7, "IllegalArgumentException: another number outside its range");
        for (int n : outside(0, 10)) {
            busy.refused("kind " + n, ARGUMENT, x -> x.rule(10, n, 1, 0));
        }
    }

    private void promise7NoRoom() {
        check.sentence(7, "RULES, at most 24, as they come");
        Twins full = new Twins(check, RefusalTest::withAllRules);
        full.refused("rule 25", NO_ROOM, x -> x.rule(10, Kinds.SIZE, 0, 0));
        check.sentence(7, "REFUSALS, the first that holds: .. IllegalArgumentException .. no room");
        full.refused("rule 25 of rank 0", ARGUMENT, x -> x.rule(0, Kinds.SIZE, 0, 0));
        full.refused("rule 25 of kind 11", ARGUMENT, x -> x.rule(10, 11, 0, 0));
        full.refused("rule 25 with a 2", ARGUMENT, x -> x.rule(10, Kinds.SIZE, 2, 0));
        full.refused("rule 25 with b 1", ARGUMENT, x -> x.rule(10, Kinds.SIZE, 0, 1));
        check.sentence(7, "A CLASH is two rules of equal rank and kind, told when the later one comes");
        full.refused("rule 25 that would clash", NO_ROOM, x -> x.rule(100, Kinds.OWN, 0, 0));
    }

    private void promise10Own() {
        check.sentence(10, "What an own rule says. IllegalArgumentException.");
        for (int n : outside(0, 3)) {
            busy.refused("own rule " + n, ARGUMENT, x -> x.own(n, 1));
            busy.refused("own rule 0 says " + n, ARGUMENT, x -> x.own(0, n));
            busy.refused("own rule 3 says " + n, ARGUMENT, x -> x.own(3, n));
        }
    }

    private void promise11Except() {
        check.sentence(11, "NoSuchElementException: no such rule");
        for (int n : outside(0, RULES - 1)) {
            busy.refused("rule " + n, NO_SUCH, x -> x.except(n, -1, -1, 1000));
            busy.refused("rule " + n + " with wrong numbers", NO_SUCH, x -> x.except(n, 12, 8, 1001));
        }
        check.sentence(11, "takes a rule away for a place (or all: -1) and an owner (or all: -1)");
        for (int n : outside(-1, 11)) {
            busy.refused("place " + n, ARGUMENT, x -> x.except(0, n, -1, 1000));
        }
        for (int n : outside(-1, 7)) {
            busy.refused("owner " + n, ARGUMENT, x -> x.except(0, -1, n, 1000));
        }
        check.sentence(11, "An exception (day 0 .. 1000).");
        for (int n : outside(0, 1000)) {
            busy.refused("day " + n, ARGUMENT, x -> x.except(0, -1, -1, n));
            busy.refused("day " + n + " of the same again", ARGUMENT, x -> x.except(12, -1, -1, n));
        }
    }

    private void promise11NoRoom() {
        check.sentence(11, "UnsupportedOperationException: there are twenty.");
        Twins full = new Twins(check, RefusalTest::withAllExceptions);
        full.refused("exception 21", NO_ROOM, x -> x.except(0, -1, -1, 1000));
        full.refused("exception 21 for another rule", NO_ROOM, x -> x.except(10, -1, -1, 1000));
        full.refused("exception 21 at another place", NO_ROOM, x -> x.except(12, 0, -1, 1000));
        full.refused("exception 21 for another owner", NO_ROOM, x -> x.except(12, -1, 0, 1000));
        check.sentence(11, "REFUSALS, the first that holds: NoSuchElementException .. no room");
        full.refused("exception 21 of no rule", NO_SUCH, x -> x.except(RULES, -1, -1, 1000));
        full.refused("exception 21 at place 12", ARGUMENT, x -> x.except(0, 12, -1, 1000));
        full.refused("exception 21 for owner 8", ARGUMENT, x -> x.except(0, -1, 8, 1000));
        full.refused("exception 21 up to day 1001", ARGUMENT, x -> x.except(0, -1, -1, 1001));
    }

    private void promise12May() {
        check.sentence(12, "NoSuchElementException: a unit or rule that there is not");
        for (int n : outside(0, UNITS - 1)) {
            busy.refused("unit " + n, NO_SUCH, x -> x.may(n, 0, 100));
            busy.refused("unit " + n + " with wrong numbers", NO_SUCH, x -> x.may(n, 12, 1001));
        }
        check.sentence(12, "a unit at a place on a day (0 .. 1000)");
        for (int n : outside(0, 11)) {
            busy.refused("place " + n, ARGUMENT, x -> x.may(FREE, n, 100));
        }
        for (int n : outside(0, 1000)) {
            busy.refused("day " + n, ARGUMENT, x -> x.may(FREE, 0, n));
        }
    }

    private void promise13Explain() {
        check.sentence(13, "IllegalArgumentException: i below 0.");
        for (int n : below0()) {
            busy.refused("i " + n, ARGUMENT, x -> x.explain(n));
        }
    }

    private void promise14Put() {
        check.sentence(14, "NoSuchElementException: a unit or rule that there is not");
        for (int n : outside(0, UNITS - 1)) {
            busy.refused("unit " + n, NO_SUCH, x -> x.put(n, 0, 100));
            busy.refused("unit " + n + " with wrong numbers", NO_SUCH, x -> x.put(n, -1, -1));
        }
        check.sentence(14, "A unit is put to a place, if it may stand there: as may()");
        for (int n : outside(0, 11)) {
            busy.refused("place " + n, ARGUMENT, x -> x.put(FREE, n, 0));
            busy.refused("place " + n + " for a unit that stands", ARGUMENT, x -> x.put(STANDING, n, 0));
        }
        for (int n : outside(0, 1000)) {
            busy.refused("day " + n, ARGUMENT, x -> x.put(FREE, 8, n));
        }
        check.sentence(14, "IllegalStateException: it stands there.");
        busy.refused("put to where it stands", STATE, x -> x.put(STANDING, 0, 0));
        busy.refused("put to where it stands, where it may not", STATE, x -> x.put(STANDING, 0, 1000));
        check.sentence(14, "REFUSALS, the first that holds: .. IllegalArgumentException .. IllegalStateException");
        busy.refused("put to where it stands on day 1001", ARGUMENT, x -> x.put(STANDING, 0, 1001));
    }

    private void promise15Take() {
        check.sentence(15, "NoSuchElementException: a unit or rule that there is not");
        for (int n : outside(0, UNITS - 1)) {
            busy.refused("unit " + n, NO_SUCH, x -> x.take(n));
        }
        check.sentence(15, "IllegalStateException: it stands nowhere.");
        busy.refused("take what stands nowhere", STATE, x -> x.take(FREE));
        Twins taken = new Twins(check, x -> {
            busy(x);
            x.take(STANDING);
        });
        taken.refused("take what was taken", STATE, x -> x.take(STANDING));
    }

    private void promise16Turned() {
        check.sentence(16, "NoSuchElementException: a unit or rule that there is not");
        for (int n : outside(0, UNITS - 1)) {
            busy.refused("unit " + n, NO_SUCH, x -> x.turned(n, 0));
            busy.refused("unit " + n + " with a wrong place", NO_SUCH, x -> x.turned(n, 12));
        }
        check.sentence(16, "IllegalArgumentException: another number outside its range");
        for (int n : outside(0, 11)) {
            busy.refused("place " + n, ARGUMENT, x -> x.turned(FREE, n));
        }
    }

    private void promise17Never() {
        check.sentence(17, "-1 if there are not so many. IllegalArgumentException.");
        for (int n : below0()) {
            busy.refused("i " + n, ARGUMENT, x -> x.never(n));
        }
    }

    private void promise18Clash() {
        check.sentence(18, "IllegalArgumentException: i below 0, or another side.");
        for (int n : below0()) {
            busy.refused("i " + n + ", side 0", ARGUMENT, x -> x.clash(n, 0));
            busy.refused("i " + n + ", side 1", ARGUMENT, x -> x.clash(n, 1));
        }
        for (int n : outside(0, 1)) {
            busy.refused("side " + n + " of a clash", ARGUMENT, x -> x.clash(0, n));
            busy.refused("side " + n + " of no clash", ARGUMENT, x -> x.clash(99, n));
        }
    }

    private void promise19At() {
        check.sentence(19, "-1 if there are not so many. IllegalArgumentException.");
        for (int n : outside(0, 11)) {
            busy.refused("place " + n, ARGUMENT, x -> x.at(n, 0));
        }
        for (int n : below0()) {
            busy.refused("i " + n, ARGUMENT, x -> x.at(0, n));
            busy.refused("i " + n + " of an empty place", ARGUMENT, x -> x.at(9, n));
        }
    }

    private void promise20Count() {
        check.sentence(20, "-1 for another what");
        for (int n : outside(0, 5)) {
            busy.unchanged("count " + n, -1, x -> x.count(n));
        }
    }

    private void nothingThereYet() {
        check.sentence(1, "No rules, units, exceptions");
        empty.refused("size of no unit", NO_SUCH, x -> x.size(0, 1, 1, 1, 1));
        empty.refused("nature of no unit", NO_SUCH, x -> x.nature(0, 0, 0, 0));
        empty.refused("may of no unit", NO_SUCH, x -> x.may(0, 0, 0));
        empty.refused("put of no unit", NO_SUCH, x -> x.put(0, 0, 0));
        empty.refused("take of no unit", NO_SUCH, x -> x.take(0));
        empty.refused("turned of no unit", NO_SUCH, x -> x.turned(0, 0));
        empty.refused("an exception of no rule", NO_SUCH, x -> x.except(0, -1, -1, 0));
    }

    /** Questions about what is there: explain() tells what may() was asked last, not what these were asked. */
    private void whatIsOnlyTold() {
        check.sentence(13, "what may() was asked last");
        busy.unchanged("explain(1)", 6, x -> x.explain(1));
        busy.unchanged("explain far behind", -1, x -> x.explain(Integer.MAX_VALUE));
        check.sentence(16, "The first way in which a unit fits a place");
        busy.unchanged("turned(0, 0)", 0, x -> x.turned(0, 0));
        busy.unchanged("turned(0, 1)", -1, x -> x.turned(0, 1));
        check.sentence(17, "-1 if there are not so many");
        busy.unchanged("never(0)", 0, x -> x.never(0));
        busy.unchanged("never far behind", -1, x -> x.never(Integer.MAX_VALUE));
        check.sentence(18, "-1 if there are not so many");
        busy.unchanged("clash(0, 1)", 2, x -> x.clash(0, 1));
        busy.unchanged("clash far behind", -1, x -> x.clash(Integer.MAX_VALUE, 0));
        check.sentence(19, "-1 if there are not so many");
        busy.unchanged("at(0, 0)", STANDING, x -> x.at(0, 0));
        busy.unchanged("at far behind", -1, x -> x.at(0, Integer.MAX_VALUE));
        check.sentence(20, "0 rules, 1 units, 2 exceptions, 3 clashes, 4 signs collected");
        int[] counts = {RULES, UNITS, 2, 2, 4, 1};
        for (int what = 0; what <= 5; what++) {
            int n = what;
            busy.unchanged("count(" + n + ")", counts[n], x -> x.count(n));
        }
    }
}
