import java.util.NoSuchElementException;

/** Each promise of the document: ordinary inputs, the edges that it names, and wrong inputs. */
public final class PromisesTest {
    private static final Class<NoSuchElementException> NO_SUCH = NoSuchElementException.class;
    private static final Class<IllegalArgumentException> ARGUMENT = IllegalArgumentException.class;
    private static final Class<IllegalStateException> STATE = IllegalStateException.class;
    private static final Class<UnsupportedOperationException> NO_ROOM = UnsupportedOperationException.class;

    private final Check check = new Check();

    public static void main(String[] args) {
        PromisesTest test = new PromisesTest();
        test.promise1NewObject();
        test.promise2Place();
        test.promise3Limit();
        test.promise4Unit();
        test.promise5Size();
        test.promise6Nature();
        test.promise7Rule();
        test.promise8Sign();
        test.promise9Read();
        test.promise9WrongSigns();
        test.promise9Room();
        test.promise10Own();
        test.promise11Except();
        test.promise12MaySizeAndWeight();
        test.promise12MayDifferentOnes();
        test.promise12MayHazardZoneUnits();
        test.promise12MayDatesAndDays();
        test.promise12MayOrder();
        test.promise13Explain();
        test.promise14Put();
        test.promise15Take();
        test.promise16Turned();
        test.promise17Never();
        test.promise18Clash();
        test.promise19At();
        test.promise20Count();
        test.check.end();
    }

    private void promise1NewObject() {
        check.part("promise 1");
        PlaceRules x = new PlaceRules();
        for (int what = 0; what <= 5; what++) {
            check.due("count(" + what + ")", 0, x.count(what));
        }
        check.due("explain(0)", -1, x.explain(0));
        check.due("never(0)", -1, x.never(0));
        check.due("clash(0, 0)", -1, x.clash(0, 0));
        check.due("at(11, 0)", -1, x.at(11, 0));
        x.unit(0, 0, 0);
        check.due("may(0, 0, 0) without rules", 0, x.may(0, 0, 0));
        for (int k = 0; k <= 3; k++) {
            x.rule(1, Kinds.OWN, k, 0);
        }
        check.due("own rules say yes", 0, x.may(0, 0, 0));
        check.due("a new object knows nothing of another", 0, new PlaceRules().count(0));
    }

    private void promise2Place() {
        check.part("promise 2");
        PlaceRules x = new PlaceRules();
        x.unit(0, 0, 0);
        x.size(0, 1000, 1000, 1000, 1);
        check.due("1000 each at first", 0, x.turned(0, 11));
        x.size(0, 1001, 1, 1, 1);
        x.place(0, 1001, 1, 1);
        check.due("turned into 1001 x 1 x 1", 0, x.turned(0, 0));
        x.place(0, 1, 1001, 1);
        check.due("turned into 1 x 1001 x 1", 2, x.turned(0, 0));
        x.place(0, 1, 1, 1001);
        check.due("turned into 1 x 1 x 1001", 3, x.turned(0, 0));
        check.due("other places stay", -1, x.turned(0, 1));
        x.place(11, 9999, 9999, 9999);
        check.due("the greatest place", 0, x.turned(0, 11));
        int[] bad = {0, -1, 10000, Integer.MIN_VALUE, Integer.MAX_VALUE};
        for (int n : bad) {
            check.throwing("width " + n, ARGUMENT, () -> x.place(0, n, 5, 5));
            check.throwing("depth " + n, ARGUMENT, () -> x.place(0, 5, n, 5));
            check.throwing("height " + n, ARGUMENT, () -> x.place(0, 5, 5, n));
        }
        check.throwing("place -1", ARGUMENT, () -> x.place(-1, 5, 5, 5));
        check.throwing("place 12", ARGUMENT, () -> x.place(12, 5, 5, 5));
        check.due("what is refused changes nothing", 3, x.turned(0, 0));
    }

    private void promise3Limit() {
        check.part("promise 3");
        PlaceRules x = new PlaceRules();
        x.unit(0, 0, 0);
        x.size(0, 1, 1, 1, 100000);
        x.rule(1, Kinds.WEIGHT, 0, 0);
        x.rule(2, Kinds.ZONE, 0, 0);
        check.due("100000 grams and zone 0 at first", 0, x.may(0, 11, 0));
        x.size(0, 1, 1, 1, 100001);
        check.due("above the first limit", 1, x.may(0, 11, 0));
        x.limit(11, 100001, 0);
        check.due("at the new limit", 0, x.may(0, 11, 0));
        check.due("other places stay", 1, x.may(0, 10, 0));
        x.limit(11, 100000, 0);
        check.due("below the new limit", 1, x.may(0, 11, 0));
        x.limit(11, 10000000, 7);
        check.due("the zone is 7", 2, x.may(0, 11, 0));
        x.limit(11, 0, 0);
        check.due("a limit of 0", 1, x.may(0, 11, 0));
        check.throwing("grams -1", ARGUMENT, () -> x.limit(11, -1, 0));
        check.throwing("grams 10000001", ARGUMENT, () -> x.limit(11, 10000001, 0));
        check.throwing("zone -1", ARGUMENT, () -> x.limit(11, 200000, -1));
        check.throwing("zone 8", ARGUMENT, () -> x.limit(11, 200000, 8));
        check.throwing("place -1", ARGUMENT, () -> x.limit(-1, 1, 0));
        check.throwing("place 12", ARGUMENT, () -> x.limit(12, 1, 0));
        check.due("what is refused changes nothing", 1, x.may(0, 11, 0));
    }

    private void promise4Unit() {
        check.part("promise 4");
        PlaceRules x = new PlaceRules();
        check.due("unit(99, 99, 7)", 0, x.unit(99, 99, 7));
        check.due("unit(0, 0, 0)", 1, x.unit(0, 0, 0));
        x.place(0, 100, 100, 100);
        check.due("100 x 100 x 100 fits", 0, x.turned(0, 0));
        x.place(0, 99, 100, 100);
        check.due("not less", -1, x.turned(0, 0));
        x.limit(0, 1000, 0);
        x.rule(1, Kinds.WEIGHT, 0, 0);
        check.due("1000 grams", 0, x.may(0, 0, 0));
        x.limit(0, 999, 0);
        check.due("not less grams", 1, x.may(0, 0, 0));
        x.rule(2, Kinds.DAYS, 1000, 0);
        check.due("last day 1000", 0, x.may(0, 1, 0));
        check.due("not later", 2, x.may(0, 1, 1));
        x.rule(3, Kinds.ZONE, 0, 1);
        check.due("class 0", 3, x.may(0, 1, 0));
        x.limit(1, 100000, 1);
        x.rule(4, Kinds.HAZARD, 0, 0);
        check.due("put(0, 1, 0)", 0, x.put(0, 1, 0));
        check.due("hazard 0", 4, x.put(1, 1, 0));
        check.throwing("good -1", ARGUMENT, () -> x.unit(-1, 0, 0));
        check.throwing("good 100", ARGUMENT, () -> x.unit(100, 0, 0));
        check.throwing("lot -1", ARGUMENT, () -> x.unit(0, -1, 0));
        check.throwing("lot 100", ARGUMENT, () -> x.unit(0, 100, 0));
        check.throwing("owner -1", ARGUMENT, () -> x.unit(0, 0, -1));
        check.throwing("owner 8", ARGUMENT, () -> x.unit(0, 0, 8));
        for (int i = 2; i < 40; i++) {
            check.due("its number", i, x.unit(0, 0, 0));
        }
        check.throwing("no room", NO_ROOM, () -> x.unit(0, 0, 0));
        check.throwing("a wrong number before no room", ARGUMENT, () -> x.unit(0, 0, 8));
        check.due("what is refused makes no unit", 40, x.count(1));
        x.limit(11, 100000, 1);
        check.due("the last unit is put", 0, x.put(39, 11, 0));
        check.due("the last unit is there", 39, x.at(11, 0));
        check.due("no unit behind it", -1, x.at(11, 1));
    }

    private void promise5Size() {
        check.part("promise 5");
        PlaceRules x = new PlaceRules();
        check.throwing("no unit", NO_SUCH, () -> x.size(0, 0, 0, 0, 0));
        x.unit(0, 0, 0);
        x.unit(0, 0, 0);
        x.rule(1, Kinds.WEIGHT, 0, 0);
        x.size(0, 1, 2, 3, 100001);
        x.place(0, 1, 2, 3);
        check.due("fits as told", 0, x.turned(0, 0));
        x.place(0, 3, 1, 2);
        check.due("fits turned", 4, x.turned(0, 0));
        check.due("the other stays", -1, x.turned(1, 0));
        check.due("grams as told", 1, x.may(0, 0, 0));
        x.size(0, 9999, 9999, 9999, 1000000);
        x.size(0, 1, 1, 1, 1);
        check.throwing("unit -1", NO_SUCH, () -> x.size(-1, 1, 1, 1, 1));
        check.throwing("unit 2", NO_SUCH, () -> x.size(2, 1, 1, 1, 1));
        check.throwing("unit 40", NO_SUCH, () -> x.size(40, 1, 1, 1, 1));
        for (int n : new int[] {0, -1, 10000, Integer.MIN_VALUE, Integer.MAX_VALUE}) {
            check.throwing("width " + n, ARGUMENT, () -> x.size(0, n, 5, 5, 5));
            check.throwing("depth " + n, ARGUMENT, () -> x.size(0, 5, n, 5, 5));
            check.throwing("height " + n, ARGUMENT, () -> x.size(0, 5, 5, n, 5));
        }
        check.throwing("grams 0", ARGUMENT, () -> x.size(0, 5, 5, 5, 0));
        check.throwing("grams 1000001", ARGUMENT, () -> x.size(0, 5, 5, 5, 1000001));
        x.place(0, 1, 1, 1);
        check.due("what is refused changes nothing", 0, x.put(0, 0, 0));
        check.throwing("it stands", STATE, () -> x.size(0, 5, 5, 5, 5));
        check.throwing("a wrong number before that it stands", ARGUMENT, () -> x.size(0, 5, 5, 5, 0));
        check.due("it is as it was", 0, x.turned(0, 0));
        x.take(0);
        x.size(0, 5, 5, 5, 5);
        check.due("changed when taken", -1, x.turned(0, 0));
    }

    private void promise6Nature() {
        check.part("promise 6");
        PlaceRules x = new PlaceRules();
        check.throwing("no unit", NO_SUCH, () -> x.nature(0, -1, -1, -1));
        x.unit(0, 0, 0);
        x.unit(0, 0, 0);
        x.rule(1, Kinds.HAZARD, 7, 0);
        x.rule(2, Kinds.ZONE, 7, 5);
        x.rule(3, Kinds.DAYS, 10, 0);
        x.put(1, 0, 0);
        x.nature(0, 7, 7, 9);
        x.may(0, 0, 0);
        check.due("hazard", 0, x.explain(0));
        check.due("class", 1, x.explain(1));
        check.due("last day", 2, x.explain(2));
        x.nature(0, 0, 0, 1000);
        check.due("all back", 0, x.may(0, 0, 0));
        check.throwing("unit -1", NO_SUCH, () -> x.nature(-1, 0, 0, 0));
        check.throwing("unit 2", NO_SUCH, () -> x.nature(2, 0, 0, 0));
        check.throwing("hazard -1", ARGUMENT, () -> x.nature(0, -1, 7, 0));
        check.throwing("hazard 8", ARGUMENT, () -> x.nature(0, 8, 7, 0));
        check.throwing("class -1", ARGUMENT, () -> x.nature(0, 7, -1, 0));
        check.throwing("class 8", ARGUMENT, () -> x.nature(0, 7, 8, 0));
        check.throwing("last day -1", ARGUMENT, () -> x.nature(0, 7, 7, -1));
        check.throwing("last day 1001", ARGUMENT, () -> x.nature(0, 7, 7, 1001));
        check.throwing("it stands", STATE, () -> x.nature(1, 7, 7, 0));
        check.throwing("a wrong number before that it stands", ARGUMENT, () -> x.nature(1, 7, 7, 1001));
        check.due("what is refused changes nothing", 0, x.may(0, 0, 0));
    }

    private void promise7Rule() {
        check.part("promise 7");
        int[] least = Kinds.LEAST;
        int[] most = Kinds.MOST;
        for (int kind = 0; kind <= 10; kind++) {
            PlaceRules x = new PlaceRules();
            int k = kind;
            boolean two = Kinds.hasTwoNumbers(kind);
            check.due("least a of kind " + kind, 0, x.rule(1, kind, least[kind], 0));
            check.due("most a of kind " + kind, 1, x.rule(100, kind, most[kind], two ? 7 : 0));
            check.throwing("a too small, kind " + kind, ARGUMENT, () -> x.rule(1, k, least[k] - 1, 0));
            check.throwing("a too great, kind " + kind, ARGUMENT, () -> x.rule(1, k, most[k] + 1, 0));
            check.throwing("b too small, kind " + kind, ARGUMENT, () -> x.rule(1, k, least[k], -1));
            check.throwing("b too great, kind " + kind, ARGUMENT, () -> x.rule(1, k, least[k], two ? 8 : 1));
            check.throwing("rank 0", ARGUMENT, () -> x.rule(0, k, least[k], 0));
            check.throwing("rank 101", ARGUMENT, () -> x.rule(101, k, least[k], 0));
            check.due("what is refused makes no rule", 2, x.count(0));
        }
        PlaceRules x = new PlaceRules();
        check.throwing("kind -1", ARGUMENT, () -> x.rule(1, -1, 0, 0));
        check.throwing("kind 11", ARGUMENT, () -> x.rule(1, 11, 0, 0));
        check.throwing("kind MAX", ARGUMENT, () -> x.rule(1, Integer.MAX_VALUE, 0, 0));
        for (int i = 0; i < 24; i++) {
            check.due("its number", i, x.rule(5, Kinds.OWN, 0, 0));
        }
        check.throwing("no room", NO_ROOM, () -> x.rule(5, Kinds.OWN, 0, 0));
        check.throwing("a wrong number before no room", ARGUMENT, () -> x.rule(5, Kinds.OWN, 4, 0));
        check.due("no rule came", 24, x.count(0));
    }

    private void promise8Sign() {
        check.part("promise 8");
        PlaceRules x = new PlaceRules();
        for (int i = 1; i <= 400; i++) {
            check.due("how many", i, x.sign('1'));
        }
        check.due("there are 400", -1, x.sign('1'));
        check.due("there are 400 still", 400, x.count(4));
        x.read();
        int[] bits = {0, 256, -256, 0x7FFFFF00, Integer.MIN_VALUE};
        String line = "7 own 3";
        for (int i = 0; i < line.length(); i++) {
            x.sign(line.charAt(i) + bits[i % bits.length]);
        }
        check.due("the low byte counts", 1, x.read());
        x.sign(-1);
        check.due("255 is no digit", -1, x.read());
    }

    private void promise9Read() {
        check.part("promise 9");
        PlaceRules x = new PlaceRules();
        check.due("nothing collected", 0, x.read());
        check.due("all kinds", 11, read(x, "11 size 1\n10 weight 100000\n9 goods 20\n8 lots 1\n7 owners 2\n"
                + "6 hazard 0 7\n5 zone 7 0\n4 units 40\n3 dates 1000\n2 days 0\n1 own 3"));
        check.due("rules are there", 11, x.count(0));
        check.due("nothing is collected then", 0, x.count(4));
        check.due("a line feed behind the last line", 1, read(x, "100 own 2\n"));
        x.unit(0, 0, 0);
        x.size(0, 9999, 9999, 9999, 1000000);
        x.nature(0, 0, 7, 0);
        x.limit(0, 0, 7);
        x.own(3, 1);
        x.own(2, 1);
        x.may(0, 0, 1);
        int[] refusing = {10, 9, 6, 1, 0, 11};
        for (int i = 0; i < refusing.length; i++) {
            check.due("explain(" + i + ")", refusing[i], x.explain(i));
        }
        check.due("no more", -1, x.explain(refusing.length));
        PlaceRules z = new PlaceRules();
        z.unit(0, 0, 0);
        z.nature(0, 0, 2, 0);
        check.due("two numbers", 1, read(z, "1 zone 2 5"));
        check.due("not in zone 5", 1, z.may(0, 0, 0));
        z.limit(0, 1, 5);
        check.due("in zone 5", 0, z.may(0, 0, 0));
        check.due("signs of an earlier text are no part of it", -1 - 4, read(z, "1 zo"));
        PlaceRules y = new PlaceRules();
        read(y, "3 own 1\n3 own 2\n3 own 1\n");
        check.due("clashes come with lines", 3, y.count(3));
        check.due("in their order", 1, y.clash(2, 0));
    }

    private void promise9WrongSigns() {
        check.part("promise 9, wrong signs");
        wrongAt(0, "\n");
        wrongAt(0, " 1 own 0");
        wrongAt(0, "x");
        wrongAt(0, "-1 own 0");
        wrongAt(0, "0 own 0");
        wrongAt(0, "101 own 0");
        wrongAt(0, "101");
        wrongAt(0, "100000 own 0");
        wrongAt(6, "1000000 own 0");
        wrongAt(1, "01 own 0");
        wrongAt(1, "00");
        wrongAt(9, "1 goods 01");
        wrongAt(1, "1");
        wrongAt(2, "1 ");
        wrongAt(1, "1\n");
        wrongAt(1, "1x own 0");
        wrongAt(2, "1  own 0");
        wrongAt(2, "1 Own 0");
        wrongAt(2, "1 x");
        wrongAt(3, "1 o");
        wrongAt(5, "1 own");
        wrongAt(5, "1 own\n");
        wrongAt(5, "1 ownx 0");
        wrongAt(6, "1 owne 1");
        wrongAt(7, "1 owner 1");
        wrongAt(8, "1 ownerss 1");
        wrongAt(4, "1 da");
        wrongAt(4, "1 dax 1");
        wrongAt(6, "1 days");
        wrongAt(6, "1 sizes 0");
        wrongAt(6, "1 own ");
        wrongAt(6, "1 own \n");
        wrongAt(6, "1 own 4");
        wrongAt(6, "1 own 4x");
        wrongAt(6, "1 own 10");
        wrongAt(7, "1 own 00");
        wrongAt(7, "1 own 1 ");
        wrongAt(7, "1 own 1 1");
        wrongAt(7, "1 own 1x");
        wrongAt(8, "1 own 1\n\n");
        wrongAt(8, "1 own 1\n 1 own 1");
        wrongAt(9, "1 own 1\n1");
        wrongAt(14, "1 own 1\n1 own 9\n1 own 9");
        wrongAt(10, "1 hazard 1");
        wrongAt(10, "1 hazard 1\n");
        wrongAt(11, "1 hazard 1 ");
        wrongAt(11, "1 hazard 1 8");
        wrongAt(9, "1 hazard 8 8");
        wrongAt(12, "1 hazard 1 7 ");
        wrongAt(8, "1 goods 0");
        wrongAt(8, "1 goods 21");
        wrongAt(9, "1 weight 100001");
        wrongAt(15, "1 weight 1000000");
        wrongAt(9, "1 weight 999999");
        wrongAt(15, "1 weight 9999999");
        wrongAt(10, "1 weight 000001");
    }

    private void wrongAt(int sign, String text) {
        PlaceRules x = new PlaceRules();
        x.rule(1, Kinds.SIZE, 0, 0);
        check.due("read of '" + text.replace("\n", "\\n") + "'", -1 - sign, read(x, text));
        check.due("no rule came of '" + text.replace("\n", "\\n") + "'", 1, x.count(0));
        check.due("no clash came", 0, x.count(3));
        check.due("nothing is collected then", 0, x.count(4));
        check.due("a right text after it", 1, read(x, "1 own 1"));
    }

    private void promise9Room() {
        check.part("promise 9, room");
        PlaceRules x = new PlaceRules();
        for (int i = 0; i < 22; i++) {
            x.rule(1, Kinds.OWN, 0, 0);
        }
        check.due("a third line", -1 - 16, read(x, "1 own 0\n1 own 0\n1 own 0"));
        check.due("a third line, whatever stands in it", -1 - 16, read(x, "1 own 0\n1 own 0\nxyz"));
        check.due("a third line that is empty", -1 - 16, read(x, "1 own 0\n1 own 0\n\n"));
        check.due("a wrong sign before it", -1 - 14, read(x, "1 own 0\n1 own 7\n1 own 0"));
        check.due("no rule came", 22, x.count(0));
        check.due("two have room", 2, read(x, "1 own 0\n1 own 0\n"));
        check.due("there is none", -1, read(x, "?"));
        check.due("nothing needs none", 0, x.read());
        check.due("all rules", 24, x.count(0));
    }

    private void promise10Own() {
        check.part("promise 10");
        PlaceRules x = new PlaceRules();
        x.unit(0, 0, 0);
        x.unit(0, 0, 0);
        x.unit(0, 0, 0);
        x.rule(1, Kinds.OWN, 3, 0);
        x.put(1, 0, 0);
        x.put(2, 0, 0);
        x.own(2, 1);
        check.due("another own rule", 0, x.may(0, 0, 0));
        x.own(3, 1);
        check.due("no to all", 1, x.may(0, 0, 0));
        x.own(3, 2);
        x.size(0, 1, 1, 1, 2000);
        check.due("not heavier than the others together", 0, x.may(0, 0, 0));
        x.size(0, 1, 1, 1, 2001);
        check.due("heavier", 1, x.may(0, 0, 0));
        check.due("heavier than none", 1, x.may(0, 1, 0));
        check.due("the others do not hold itself", 0, x.may(1, 0, 0));
        check.due("no failure yet", 0, x.count(5));
        x.own(3, 3);
        check.due("it fails", 1, x.may(0, 0, 0));
        check.due("told", 1, x.count(5));
        x.rule(1, Kinds.OWN, 3, 0);
        check.due("it fails twice", 1, x.may(0, 0, 0));
        check.due("told as often as asked", 3, x.count(5));
        check.throwing("k -1", ARGUMENT, () -> x.own(-1, 0));
        check.throwing("k 4", ARGUMENT, () -> x.own(4, 0));
        check.throwing("says -1", ARGUMENT, () -> x.own(3, -1));
        check.throwing("says 4", ARGUMENT, () -> x.own(3, 4));
        check.due("what is refused changes nothing", 1, x.may(0, 0, 0));
        x.own(3, 0);
        check.due("yes again", 0, x.may(0, 0, 0));
        check.due("failures stay told", 5, x.count(5));
    }

    private void promise11Except() {
        check.part("promise 11");
        PlaceRules x = new PlaceRules();
        x.unit(0, 0, 4);
        x.unit(0, 0, 5);
        check.throwing("no rule, before a wrong number", NO_SUCH, () -> x.except(0, 99, 99, -5));
        x.rule(1, Kinds.OWN, 0, 0);
        x.own(0, 3);
        x.except(0, 3, 4, 10);
        check.due("up to that day", 0, x.may(0, 3, 10));
        check.due("not asked, so not failed", 0, x.count(5));
        check.due("not the day after", 1, x.may(0, 3, 11));
        check.due("not at another place", 1, x.may(0, 2, 10));
        check.due("not for another owner", 1, x.may(1, 3, 10));
        x.except(0, 3, 4, 9);
        check.due("an earlier day does not count", 0, x.may(0, 3, 10));
        x.except(0, 3, 4, 11);
        check.due("the later day counts", 0, x.may(0, 3, 11));
        check.due("the same again is no other", 1, x.count(2));
        x.except(0, -1, 5, 20);
        check.due("all places", 0, x.may(1, 11, 20));
        check.due("all places, not all owners", 1, x.may(0, 11, 20));
        x.except(0, 7, -1, 0);
        check.due("all owners", 0, x.may(0, 7, 0));
        check.due("all owners, not all places", 1, x.may(0, 8, 0));
        x.rule(2, Kinds.OWN, 0, 0);
        check.due("another rule", 2, x.may(0, 7, 0));
        check.throwing("rule -1", NO_SUCH, () -> x.except(-1, 0, 0, 0));
        check.throwing("rule 2", NO_SUCH, () -> x.except(2, 0, 0, 0));
        check.throwing("place -2", ARGUMENT, () -> x.except(0, -2, 0, 0));
        check.throwing("place 12", ARGUMENT, () -> x.except(0, 12, 0, 0));
        check.throwing("owner -2", ARGUMENT, () -> x.except(0, 0, -2, 0));
        check.throwing("owner 8", ARGUMENT, () -> x.except(0, 0, 8, 0));
        check.throwing("day -1", ARGUMENT, () -> x.except(0, 0, 0, -1));
        check.throwing("day 1001", ARGUMENT, () -> x.except(0, 0, 0, 1001));
        check.due("what is refused makes none", 3, x.count(2));
        for (int i = 0; i < 17; i++) {
            x.except(1, i % 9, i / 9, 1000);
        }
        check.due("twenty", 20, x.count(2));
        check.throwing("no room", NO_ROOM, () -> x.except(1, 11, 7, 0));
        check.throwing("a wrong number before no room", ARGUMENT, () -> x.except(1, 12, 7, 0));
        x.except(0, 3, 4, 15);
        check.due("the same again needs no room", 2, x.may(0, 3, 15));
        check.due("twenty still", 20, x.count(2));
    }

    private void promise12MaySizeAndWeight() {
        check.part("promise 12, size and weight");
        PlaceRules x = new PlaceRules();
        x.unit(0, 0, 0);
        x.unit(0, 0, 0);
        x.rule(2, Kinds.SIZE, 0, 0);
        x.rule(1, Kinds.SIZE, 1, 0);
        x.size(0, 30, 20, 10, 400);
        int[][] places = {{30, 20, 10, 0}, {20, 30, 10, 0}, {30, 10, 20, 1}, {10, 30, 20, 1}, {20, 10, 30, 1},
            {10, 20, 30, 1}, {29, 29, 29, 2}, {9, 99, 99, 2}, {99, 99, 9, 2}};
        for (int[] p : places) {
            x.place(0, p[0], p[1], p[2]);
            check.due("size in " + p[0] + " x " + p[1] + " x " + p[2], p[3], x.may(0, 0, 0));
        }
        PlaceRules y = new PlaceRules();
        y.unit(0, 0, 0);
        y.unit(0, 0, 0);
        y.rule(1, Kinds.WEIGHT, 500, 0);
        y.limit(0, 2500, 0);
        y.put(1, 0, 0);
        check.due("weight at the limit less a", 0, y.may(0, 0, 0));
        y.size(0, 1, 1, 1, 1001);
        check.due("weight above it", 1, y.may(0, 0, 0));
        check.due("itself counts once", 0, y.may(1, 0, 0));
        y.limit(1, 499, 0);
        y.size(0, 1, 1, 1, 1);
        check.due("a limit below a", 1, y.may(0, 1, 0));
        check.throwing("unit -1", NO_SUCH, () -> y.may(-1, 0, 0));
        check.throwing("unit 2, before a wrong place", NO_SUCH, () -> y.may(2, 12, -1));
        check.throwing("place -1", ARGUMENT, () -> y.may(0, -1, 0));
        check.throwing("place 12", ARGUMENT, () -> y.may(0, 12, 0));
        check.throwing("day -1", ARGUMENT, () -> y.may(0, 0, -1));
        check.throwing("day 1001", ARGUMENT, () -> y.may(0, 0, 1001));
        check.due("day 1000", 0, y.may(0, 0, 1000));
    }

    private void promise12MayDifferentOnes() {
        check.part("promise 12, goods, lots, owners");
        int[][] units = {{1, 1, 1}, {1, 2, 1}, {99, 2, 2}, {63, 3, 1}, {64, 64, 7}};
        PlaceRules x = new PlaceRules();
        for (int[] u : units) {
            x.unit(u[0], u[1], u[2]);
        }
        x.rule(1, Kinds.GOODS, 2, 0);
        x.rule(2, Kinds.LOTS, 1, 0);
        x.rule(3, Kinds.OWNERS, 1, 0);
        check.due("alone", 0, x.put(0, 0, 0));
        check.due("a second lot of the good", 2, x.may(1, 0, 0));
        check.due("a second owner, a lot of another good", 3, x.may(2, 0, 0));
        check.due("no further refusal", -1, x.explain(1));
        check.due("a second good", 0, x.put(3, 0, 0));
        check.due("a third good", 1, x.may(2, 0, 0));
        check.due("a third good and a second owner", 2, x.explain(1));
        check.due("a fifth unit elsewhere", 0, x.put(4, 1, 0));
        check.due("others elsewhere do not count", 2, x.may(1, 0, 0));
        x.except(1, -1, -1, 1000);
        check.due("put(1, 0, 0)", 0, x.put(1, 0, 0));
        check.due("the same good twice is one", 0, x.may(0, 0, 0));
        PlaceRules y = new PlaceRules();
        y.rule(1, Kinds.GOODS, 20, 0);
        for (int i = 0; i < 21; i++) {
            y.unit(i * 4, 0, 0);
            check.due("the good number " + (i + 1), i < 20 ? 0 : 1, y.put(i, 0, 0));
        }
    }

    private void promise12MayHazardZoneUnits() {
        check.part("promise 12, hazard, zone, units");
        PlaceRules x = new PlaceRules();
        for (int i = 0; i < 4; i++) {
            x.unit(0, 0, 0);
        }
        x.rule(1, Kinds.HAZARD, 2, 5);
        x.nature(0, 2, 0, 0);
        x.nature(1, 5, 0, 0);
        x.nature(2, 2, 0, 0);
        check.due("alone", 0, x.put(0, 0, 0));
        check.due("a beside b", 1, x.may(1, 0, 0));
        check.due("a beside a", 0, x.may(2, 0, 0));
        check.due("another hazard", 0, x.put(3, 0, 0));
        check.due("b alone", 0, x.put(1, 1, 0));
        check.due("b beside a, the other way round", 1, x.may(0, 1, 0));
        x.rule(2, Kinds.HAZARD, 2, 2);
        check.due("a is b, alone", 0, x.may(0, 0, 0));
        check.due("a is b, two of it", 2, x.may(2, 0, 0));

        PlaceRules y = new PlaceRules();
        y.unit(0, 0, 0);
        y.rule(1, Kinds.ZONE, 3, 6);
        check.due("another class", 0, y.may(0, 0, 0));
        y.nature(0, 0, 3, 0);
        check.due("the class, not the zone", 1, y.may(0, 0, 0));
        y.limit(0, 100000, 6);
        check.due("the class and the zone", 0, y.may(0, 0, 0));

        PlaceRules z = new PlaceRules();
        z.rule(1, Kinds.UNITS, 2, 0);
        for (int i = 0; i < 3; i++) {
            z.unit(0, 0, 0);
            check.due("unit number " + (i + 1), i < 2 ? 0 : 1, z.put(i, 4, 0));
        }
        check.due("itself counts once", 0, z.may(1, 4, 0));
    }

    private void promise12MayDatesAndDays() {
        check.part("promise 12, dates, days");
        PlaceRules x = new PlaceRules();
        int[] last = {100, 110, 120, 121, 99};
        for (int i = 0; i < last.length; i++) {
            x.unit(0, 0, 0);
            x.nature(i, 0, 0, last[i]);
        }
        x.rule(1, Kinds.DATES, 20, 0);
        check.due("alone", 0, x.put(0, 0, 0));
        check.due("10 apart", 0, x.put(1, 0, 0));
        check.due("20 apart", 0, x.may(2, 0, 0));
        check.due("21 apart", 1, x.may(3, 0, 0));
        check.due("the third within 20", 0, x.put(2, 0, 0));
        check.due("21 apart below", 1, x.may(4, 0, 0));
        check.due("itself is none of the others", 0, x.may(0, 0, 0));

        PlaceRules y = new PlaceRules();
        y.unit(0, 0, 0);
        y.nature(0, 0, 0, 50);
        y.rule(1, Kinds.DAYS, 10, 0);
        y.rule(2, Kinds.DAYS, 0, 0);
        check.due("10 behind the day", 0, y.may(0, 0, 40));
        check.due("9 behind the day", 1, y.may(0, 0, 41));
        check.due("not before the day", -1, y.explain(1));
        y.may(0, 0, 51);
        check.due("before the day", 1, y.explain(1));
    }

    private void promise12MayOrder() {
        check.part("promise 12, order");
        PlaceRules x = new PlaceRules();
        x.unit(0, 0, 0);
        x.own(0, 1);
        int[] ranks = {50, 100, 1, 50, 2, 1, 100};
        for (int rank : ranks) {
            x.rule(rank, Kinds.OWN, 0, 0);
        }
        check.due("the least rank, of equal ones the least number", 3, x.may(0, 0, 0));
        int[] order = {2, 5, 4, 0, 3, 1, 6, -1};
        for (int i = 0; i < order.length; i++) {
            check.due("asked as number " + i, order[i], x.explain(i));
        }
        check.due("may() puts nothing", -1, x.at(0, 0));
    }

    private void promise13Explain() {
        check.part("promise 13");
        PlaceRules x = new PlaceRules();
        check.throwing("explain(-1)", ARGUMENT, () -> x.explain(-1));
        check.throwing("explain(MIN)", ARGUMENT, () -> x.explain(Integer.MIN_VALUE));
        x.unit(0, 0, 0);
        x.rule(3, Kinds.OWN, 0, 0);
        x.rule(2, Kinds.OWN, 1, 0);
        x.rule(1, Kinds.OWN, 2, 0);
        x.own(0, 1);
        check.due("nothing was asked", -1, x.explain(0));
        x.own(2, 1);
        x.may(0, 0, 0);
        check.due("explain(0)", 2, x.explain(0));
        check.due("explain(1)", 0, x.explain(1));
        check.due("explain(2)", -1, x.explain(2));
        check.due("explain(MAX)", -1, x.explain(Integer.MAX_VALUE));
        x.own(2, 0);
        x.rule(1, Kinds.OWN, 0, 0);
        check.due("what was asked last stays", 2, x.explain(0));
        check.throwing("a question that is refused", ARGUMENT, () -> x.may(0, 12, 0));
        check.throwing("a question that is refused", NO_SUCH, () -> x.may(1, 0, 0));
        check.due("is not asked", 2, x.explain(0));
        x.own(0, 0);
        x.may(0, 0, 0);
        check.due("nothing refuses now", -1, x.explain(0));
    }

    private void promise14Put() {
        check.part("promise 14");
        PlaceRules x = new PlaceRules();
        x.unit(0, 0, 0);
        x.unit(0, 0, 0);
        x.rule(1, Kinds.UNITS, 1, 0);
        check.throwing("unit -1", NO_SUCH, () -> x.put(-1, 0, 0));
        check.throwing("unit 2, before a wrong place", NO_SUCH, () -> x.put(2, 12, -1));
        check.throwing("place -1", ARGUMENT, () -> x.put(0, -1, 0));
        check.throwing("place 12", ARGUMENT, () -> x.put(0, 12, 0));
        check.throwing("day -1", ARGUMENT, () -> x.put(0, 0, -1));
        check.throwing("day 1001", ARGUMENT, () -> x.put(0, 0, 1001));
        check.due("put(0, 0, 0)", 0, x.put(0, 0, 0));
        check.due("it stands there", 0, x.at(0, 0));
        check.due("put(1, 1, 0)", 0, x.put(1, 1, 0));
        check.due("refused", 1, x.put(1, 0, 0));
        check.due("explain tells of it", 0, x.explain(0));
        check.due("it stands where it stood", 1, x.at(1, 0));
        check.due("not where it was refused", -1, x.at(0, 1));
        check.throwing("it stands there", STATE, () -> x.put(1, 1, 0));
        check.throwing("a wrong day before that", ARGUMENT, () -> x.put(1, 1, 1001));
        check.due("what is refused asks nothing", 0, x.explain(0));
        check.due("moved", 0, x.put(1, 2, 0));
        check.due("away from where it stood", -1, x.at(1, 0));
        check.due("to where it was put", 1, x.at(2, 0));
        check.due("explain tells that nothing refused", -1, x.explain(0));
        x.own(0, 3);
        x.rule(1, Kinds.OWN, 0, 0);
        check.throwing("it stands there", STATE, () -> x.put(1, 2, 0));
        check.due("no own rule was asked", 0, x.count(5));
        x.put(1, 0, 0);
        check.due("all rules are asked", 1, x.count(5));
    }

    private void promise15Take() {
        check.part("promise 15");
        PlaceRules x = new PlaceRules();
        x.unit(0, 0, 0);
        x.unit(0, 0, 0);
        check.throwing("unit -1", NO_SUCH, () -> x.take(-1));
        check.throwing("unit 2", NO_SUCH, () -> x.take(2));
        check.throwing("nowhere", STATE, () -> x.take(0));
        x.put(0, 0, 0);
        x.put(1, 0, 0);
        x.take(0);
        check.due("the other stays", 1, x.at(0, 0));
        check.due("it is away", -1, x.at(0, 1));
        check.throwing("nowhere again", STATE, () -> x.take(0));
        check.due("put again", 0, x.put(0, 0, 0));
    }

    private void promise16Turned() {
        check.part("promise 16");
        PlaceRules x = new PlaceRules();
        x.unit(0, 0, 0);
        x.size(0, 10, 20, 30, 1);
        int[][] places = {{10, 20, 30, 0}, {10, 30, 20, 1}, {20, 10, 30, 2}, {20, 30, 10, 3}, {30, 10, 20, 4},
            {30, 20, 10, 5}, {30, 30, 30, 0}, {29, 29, 29, -1}, {30, 30, 20, 1}, {20, 30, 20, 1}, {30, 30, 10, 3},
            {9, 9999, 9999, -1}};
        for (int[] p : places) {
            x.place(5, p[0], p[1], p[2]);
            check.due("turned into " + p[0] + " x " + p[1] + " x " + p[2], p[3], x.turned(0, 5));
        }
        check.throwing("unit -1", NO_SUCH, () -> x.turned(-1, 0));
        check.throwing("unit 1, before a wrong place", NO_SUCH, () -> x.turned(1, 12));
        check.throwing("place -1", ARGUMENT, () -> x.turned(0, -1));
        check.throwing("place 12", ARGUMENT, () -> x.turned(0, 12));
        check.due("nothing was asked", -1, x.explain(0));
    }

    private void promise17Never() {
        check.part("promise 17");
        PlaceRules x = new PlaceRules();
        check.throwing("never(-1)", ARGUMENT, () -> x.never(-1));
        x.unit(0, 0, 0);
        for (int k = 0; k < 4; k++) {
            x.rule(4 - k, Kinds.OWN, k, 0);
        }
        check.due("never(0) at first", 0, x.never(0));
        check.due("never(3) at first", 3, x.never(3));
        check.due("never(4) at first", -1, x.never(4));
        x.own(1, 1);
        x.own(2, 3);
        x.may(0, 0, 0);
        x.own(1, 0);
        x.own(2, 0);
        check.due("never(0), upward", 0, x.never(0));
        check.due("never(1), upward", 3, x.never(1));
        check.due("never(2)", -1, x.never(2));
        check.due("never(MAX)", -1, x.never(Integer.MAX_VALUE));
        x.own(0, 1);
        x.except(0, -1, -1, 1000);
        x.may(0, 0, 0);
        check.due("what was not asked did not refuse", 0, x.never(0));
        x.own(3, 1);
        x.put(0, 0, 0);
        check.due("put() asks too", -1, x.never(1));
        x.rule(1, Kinds.SIZE, 0, 0);
        check.due("a new rule", 4, x.never(1));
    }

    private void promise18Clash() {
        check.part("promise 18");
        PlaceRules x = new PlaceRules();
        check.throwing("i -1", ARGUMENT, () -> x.clash(-1, 0));
        check.throwing("side -1", ARGUMENT, () -> x.clash(0, -1));
        check.throwing("side 2", ARGUMENT, () -> x.clash(0, 2));
        x.rule(5, Kinds.GOODS, 1, 0);
        x.rule(5, Kinds.LOTS, 1, 0);
        x.rule(6, Kinds.GOODS, 1, 0);
        check.due("equal rank or kind alone is none", 0, x.count(3));
        x.rule(5, Kinds.LOTS, 1, 0);
        x.rule(5, Kinds.GOODS, 9, 0);
        x.rule(5, Kinds.GOODS, 1, 0);
        int[][] clashes = {{1, 3}, {0, 4}, {0, 5}, {4, 5}};
        for (int i = 0; i < clashes.length; i++) {
            check.due("clash(" + i + ", 0)", clashes[i][0], x.clash(i, 0));
            check.due("clash(" + i + ", 1)", clashes[i][1], x.clash(i, 1));
        }
        check.due("clash(4, 0)", -1, x.clash(4, 0));
        check.due("clash(MAX, 1)", -1, x.clash(Integer.MAX_VALUE, 1));
        check.due("count(3)", 4, x.count(3));
        PlaceRules y = new PlaceRules();
        for (int i = 0; i < 24; i++) {
            y.rule(1, Kinds.OWN, i % 4, 0);
        }
        check.due("all clashes", 276, y.count(3));
        check.due("the last clash's earlier rule", 22, y.clash(275, 0));
        check.due("the last clash's later rule", 23, y.clash(275, 1));
        check.due("no more", -1, y.clash(276, 1));
    }

    private void promise19At() {
        check.part("promise 19");
        PlaceRules x = new PlaceRules();
        for (int i = 0; i < 4; i++) {
            x.unit(0, 0, 0);
        }
        x.put(3, 11, 0);
        x.put(0, 11, 0);
        x.put(2, 11, 0);
        x.put(1, 0, 0);
        int[] there = {0, 2, 3, -1};
        for (int i = 0; i < there.length; i++) {
            check.due("at(11, " + i + ")", there[i], x.at(11, i));
        }
        check.due("at(0, 0)", 1, x.at(0, 0));
        check.due("at(5, 0)", -1, x.at(5, 0));
        check.due("at(11, MAX)", -1, x.at(11, Integer.MAX_VALUE));
        check.throwing("place -1", ARGUMENT, () -> x.at(-1, 0));
        check.throwing("place 12", ARGUMENT, () -> x.at(12, 0));
        check.throwing("i -1", ARGUMENT, () -> x.at(0, -1));
    }

    private void promise20Count() {
        check.part("promise 20");
        PlaceRules x = new PlaceRules();
        x.own(0, 3);
        for (int i = 0; i < 6; i++) {
            x.unit(0, 0, 0);
        }
        for (int i = 0; i < 4; i++) {
            x.rule(1 + i / 3, Kinds.OWN, 0, 0);
        }
        x.except(0, 0, 0, 0);
        x.except(0, 0, -1, 0);
        for (int i = 0; i < 5; i++) {
            x.sign('x');
        }
        x.may(0, 1, 0);
        x.may(0, 0, 0);
        int[] counts = {4, 6, 2, 3, 5, 7};
        for (int what = 0; what < counts.length; what++) {
            check.due("count(" + what + ")", counts[what], x.count(what));
        }
        for (int what : new int[] {-1, 6, Integer.MIN_VALUE, Integer.MAX_VALUE}) {
            check.due("count(" + what + ")", -1, x.count(what));
        }
    }

    private static int read(PlaceRules x, String text) {
        for (int i = 0; i < text.length(); i++) {
            x.sign(text.charAt(i));
        }
        return x.read();
    }
}
