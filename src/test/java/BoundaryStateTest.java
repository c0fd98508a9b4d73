/** Boundary cases of places, units, rules, own rules and exceptions: what is at first, ends of ranges, full rows. */
public final class BoundaryStateTest {
    private static final int PLACES = 12;
    private static final int LAST_DAY = 1000;

    private final Check check = new Check();

    public static void main(String[] args) {
        BoundaryStateTest test = new BoundaryStateTest();
        test.nothingIsThereAtFirst();
        test.ownRulesSayYesAtFirst();
        test.objectsShareNothing();
        test.placesAtFirst();
        test.endsOfPlaceSizes();
        test.endsOfLimitAndZone();
        test.limitsOfAPlaceThatIsFull();
        test.unitsAtFirst();
        test.endsOfGoodLotOwner();
        test.fortyUnits();
        test.endsOfUnitSizes();
        test.endsOfNature();
        test.sizeAndNatureOnceTaken();
        test.unitStandsAtOnePlaceOrNowhere();
        test.endsOfRules();
        test.twentyFourRules();
        test.fourOwnRules();
        test.endsOfExceptions();
        test.exceptionUpToItsDay();
        test.exceptionForAllOrOne();
        test.sameExceptionAgain();
        test.exceptionsThatAreNotTheSame();
        test.twentyExceptions();
        test.check.end();
    }

    private void nothingIsThereAtFirst() {
        check.sentence(1, "No rules, units, exceptions");
        PlaceRules x = new PlaceRules();
        for (int what = 0; what <= 5; what++) {
            check.due("count(" + what + ")", 0, x.count(what));
        }
        for (int place = 0; place < PLACES; place++) {
            check.due("at(" + place + ", 0)", -1, x.at(place, 0));
        }
        check.due("explain(0)", -1, x.explain(0));
        check.due("never(0)", -1, x.never(0));
        check.due("clash(0, 0)", -1, x.clash(0, 0));
        check.due("clash(0, 1)", -1, x.clash(0, 1));
        check.due("read()", 0, x.read());
        check.due("the first unit", 0, x.unit(0, 0, 0));
        check.due("the first rule", 0, x.rule(1, Kinds.SIZE, 0, 0));
        check.due("the first sign", 1, x.sign('1'));
    }

    private void ownRulesSayYesAtFirst() {
        check.sentence(1, "own rules say yes");
        for (int k = 0; k <= 3; k++) {
            PlaceRules x = new PlaceRules();
            x.unit(0, 0, 0);
            x.rule(1, Kinds.OWN, k, 0);
            check.due("own rule " + k, 0, x.may(0, 0, 0));
            check.due("own rule " + k + " did not fail", 0, x.count(5));
        }
    }

    private void objectsShareNothing() {
        check.sentence(1, "No rules, units, exceptions; own rules say yes.");
        PlaceRules x = new PlaceRules();
        x.unit(0, 0, 0);
        x.rule(1, Kinds.OWN, 0, 0);
        x.except(0, 0, 0, 0);
        x.own(0, 3);
        x.place(1, 1, 1, 1);
        x.sign('1');
        x.may(0, 1, 1);
        PlaceRules y = new PlaceRules();
        for (int what = 0; what <= 5; what++) {
            check.due("count(" + what + ") of another object", 0, y.count(what));
        }
        y.unit(0, 0, 0);
        y.rule(1, Kinds.OWN, 0, 0);
        y.rule(1, Kinds.SIZE, 0, 0);
        check.due("another object's own rule and place", 0, y.may(0, 1, 1));
        check.due("another object's refusals", 0, y.never(0));
    }

    private void placesAtFirst() {
        check.sentence(2, "PLACES 0 .. 11: width, depth and height (1000 each at first");
        int[][] tooGreat = {{1001, 1, 1}, {1000, 1001, 1}, {1000, 1000, 1001}};
        PlaceRules x = new PlaceRules();
        x.unit(0, 0, 0);
        x.size(0, 1000, 1000, 1000, 1);
        for (int place = 0; place < PLACES; place++) {
            check.due("1000 each at place " + place, 0, x.turned(0, place));
        }
        for (int[] s : tooGreat) {
            x.size(0, s[0], s[1], s[2], 1);
            for (int place = 0; place < PLACES; place++) {
                check.due(s[0] + " x " + s[1] + " x " + s[2] + " at place " + place, -1, x.turned(0, place));
            }
        }
        check.sentence(3, "a limit of grams (100000 at first), a zone 0 .. 7 (0 at first)");
        PlaceRules y = new PlaceRules();
        y.unit(0, 0, 0);
        y.rule(1, Kinds.WEIGHT, 0, 0);
        y.rule(2, Kinds.ZONE, 0, 0);
        for (int place = 0; place < PLACES; place++) {
            y.size(0, 1, 1, 1, 100000);
            check.due("100000 grams in zone 0 at place " + place, 0, y.may(0, place, 0));
            y.size(0, 1, 1, 1, 100001);
            check.due("100001 grams at place " + place, 1, y.may(0, place, 0));
        }
    }

    private void endsOfPlaceSizes() {
        check.sentence(2, "PLACES 0 .. 11: width, depth and height (1000 each at first, 1 .. 9999)");
        for (int place = 0; place < PLACES; place++) {
            PlaceRules x = new PlaceRules();
            x.unit(0, 0, 0);
            x.place(place, 1, 1, 1);
            x.size(0, 1, 1, 1, 1);
            check.due("1 in 1 at place " + place, 0, x.turned(0, place));
            x.size(0, 2, 1, 1, 1);
            check.due("2 in 1 at place " + place, -1, x.turned(0, place));
            x.size(0, 9999, 9998, 9997, 1);
            check.due("a place " + place + " of 1", -1, x.turned(0, place));
            x.place(place, 9999, 9998, 9997);
            check.due("a place " + place + " of 9999 x 9998 x 9997", 0, x.turned(0, place));
            x.place(place, 9997, 9999, 9998);
            check.due("a place " + place + " of 9997 x 9999 x 9998", 4, x.turned(0, place));
            x.place(place, 9998, 9997, 9999);
            check.due("a place " + place + " of 9998 x 9997 x 9999", 3, x.turned(0, place));
            check.due("the next place stays", -1, x.turned(0, (place + 1) % PLACES));
        }
    }

    private void endsOfLimitAndZone() {
        check.sentence(3, "A place's limit (0 .. 10000000 grams) and zone.");
        PlaceRules x = new PlaceRules();
        x.rule(1, Kinds.WEIGHT, 0, 0);
        for (int i = 0; i < 11; i++) {
            x.unit(0, 0, 0);
            x.size(i, 1, 1, 1, 1000000);
        }
        x.limit(11, 10000000, 0);
        for (int i = 0; i < 10; i++) {
            check.due("a million grams, number " + (i + 1), 0, x.put(i, 11, 0));
        }
        check.due("more than 10000000 grams", 1, x.put(10, 11, 0));
        x.size(10, 1, 1, 1, 1);
        check.due("one gram more than 10000000", 1, x.put(10, 11, 0));
        x.limit(0, 0, 0);
        check.due("one gram at a limit of 0", 1, x.may(10, 0, 0));
        x.limit(0, 1, 0);
        check.due("one gram at a limit of 1", 0, x.may(10, 0, 0));
        check.sentence(3, "a zone 0 .. 7 (0 at first)");
        for (int zone = 0; zone <= 7; zone++) {
            PlaceRules y = new PlaceRules();
            y.unit(0, 0, 0);
            y.limit(zone + 4, 0, zone);
            for (int b = 0; b <= 7; b++) {
                y.rule(1 + b, Kinds.ZONE, 0, b);
            }
            y.may(0, zone + 4, 0);
            check.due("only zone " + zone + " is right", zone, y.never(0));
            check.due("all others refuse", -1, y.never(1));
        }
    }

    private void limitsOfAPlaceThatIsFull() {
        check.sentence(3, "A place's limit (0 .. 10000000 grams) and zone.");
        PlaceRules x = new PlaceRules();
        x.unit(0, 0, 0);
        x.rule(1, Kinds.WEIGHT, 0, 0);
        x.rule(2, Kinds.SIZE, 1, 0);
        x.put(0, 0, 0);
        x.limit(0, 0, 5);
        x.place(0, 1, 1, 1);
        check.due("what stands there stays", 0, x.at(0, 0));
        check.due("though it may not now", 1, x.may(0, 0, 0));
        check.due("for both rules", 1, x.explain(1));
    }

    private void unitsAtFirst() {
        check.sentence(4, "A unit of 100 x 100 x 100, 1000 grams, hazard 0, class 0, last day 1000: its number.");
        PlaceRules x = new PlaceRules();
        check.due("its number", 0, x.unit(0, 0, 0));
        int[][] sizes = {{100, 100, 100, 0}, {99, 101, 101, -1}, {101, 99, 101, -1}, {101, 101, 99, -1}};
        for (int[] s : sizes) {
            x.place(0, s[0], s[1], s[2]);
            check.due("turned in " + s[0] + " x " + s[1] + " x " + s[2], s[3], x.turned(0, 0));
        }
        x.rule(1, Kinds.WEIGHT, 0, 0);
        x.limit(1, 1000, 0);
        check.due("1000 grams", 0, x.may(0, 1, 0));
        x.limit(1, 999, 0);
        check.due("not 999 grams", 1, x.may(0, 1, 0));
        x.rule(2, Kinds.DAYS, 0, 0);
        check.due("last day 1000", 0, x.may(0, 2, LAST_DAY));
        x.rule(3, Kinds.DAYS, 1, 0);
        check.due("not 1001", 3, x.may(0, 2, LAST_DAY));
        for (int n = 0; n <= 7; n++) {
            PlaceRules y = new PlaceRules();
            y.unit(0, 0, 0);
            y.unit(0, 0, 0);
            y.put(1, 0, 0);
            y.rule(1, Kinds.HAZARD, n, n);
            y.rule(2, Kinds.ZONE, n, 1);
            y.may(0, 0, 0);
            check.due("hazard 0, not " + n, n == 0 ? 0 : -1, y.explain(0));
            check.due("class 0, not " + n, n == 0 ? 1 : -1, y.explain(1));
        }
        check.due("it stands nowhere", -1, x.at(0, 0));
    }

    private void endsOfGoodLotOwner() {
        check.sentence(4, "a good 0 .. 99, a lot 0 .. 99, an owner 0 .. 7");
        PlaceRules x = new PlaceRules();
        check.due("the least", 0, x.unit(0, 0, 0));
        check.due("the greatest", 1, x.unit(99, 99, 7));
        check.due("the greatest good, the least lot", 2, x.unit(99, 0, 7));
        check.due("good 63", 3, x.unit(63, 0, 7));
        check.due("good 64", 4, x.unit(64, 0, 7));
        x.rule(1, Kinds.GOODS, 1, 0);
        x.rule(2, Kinds.LOTS, 1, 0);
        x.rule(3, Kinds.OWNERS, 1, 0);
        check.due("alone", 0, x.put(0, 0, 0));
        check.due("goods 0 and 99 are two", 1, x.may(1, 0, 0));
        check.due("owners 0 and 7 are two", 2, x.explain(1));
        check.due("no third refusal", -1, x.explain(2));
        check.due("goods 0 and 64 are two", 1, x.may(4, 0, 0));
        check.due("alone, too", 0, x.put(2, 1, 0));
        check.due("lots 0 and 99 are two", 2, x.may(1, 1, 0));
        check.due("alone, as well", 0, x.put(3, 2, 0));
        check.due("goods 63 and 64 are two", 1, x.may(4, 2, 0));
        check.due("goods 64 and 0 are two", 1, x.may(4, 0, 0));
    }

    private void fortyUnits() {
        check.sentence(4, "UNITS, at most 40, as they come");
        PlaceRules x = new PlaceRules();
        for (int i = 0; i < 40; i++) {
            check.due("unit number " + i, i, x.unit(i, i, i % 8));
            check.due("how many", i + 1, x.count(1));
        }
        check.throwing("the 41st unit", UnsupportedOperationException.class, () -> x.unit(0, 0, 0));
        check.due("forty", 40, x.count(1));
        for (int i = 0; i < 40; i++) {
            check.due("unit " + i + " is put", 0, x.put(i, 0, 0));
        }
        for (int i = 0; i < 40; i++) {
            check.due("at(0, " + i + ")", i, x.at(0, i));
        }
        check.due("no unit behind the fortieth", -1, x.at(0, 40));
        x.take(39);
        check.throwing("taken away is not gone: no room", UnsupportedOperationException.class, () -> x.unit(0, 0, 0));
    }

    private void endsOfUnitSizes() {
        check.sentence(5, "width, depth, height 1 .. 9999, grams 1 .. 1000000");
        PlaceRules x = new PlaceRules();
        x.unit(0, 0, 0);
        x.unit(0, 0, 0);
        x.place(0, 1, 1, 1);
        x.place(1, 9999, 9999, 9999);
        x.rule(1, Kinds.WEIGHT, 0, 0);
        x.size(0, 1, 1, 1, 1);
        check.due("the least sizes", 0, x.turned(0, 0));
        x.limit(0, 1, 0);
        check.due("the least grams", 0, x.may(0, 0, 0));
        x.size(0, 9999, 9999, 9999, 1000000);
        check.due("the greatest sizes", 0, x.turned(0, 1));
        x.limit(1, 1000000, 0);
        check.due("the greatest grams", 0, x.may(0, 1, 0));
        x.limit(1, 999999, 0);
        check.due("not less grams", 1, x.may(0, 1, 0));
        int[][] places = {{9998, 9999, 9999}, {9999, 9998, 9999}, {9999, 9999, 9998}};
        for (int[] p : places) {
            x.place(1, p[0], p[1], p[2]);
            check.due("not less in " + p[0] + " x " + p[1] + " x " + p[2], -1, x.turned(0, 1));
        }
        x.place(2, 100, 100, 100);
        check.due("the other unit stays", 0, x.turned(1, 2));
    }

    private void endsOfNature() {
        check.sentence(6, "a hazard 0 .. 7, a class 0 .. 7, a last day 0 .. 1000");
        for (int n = 0; n <= 7; n++) {
            PlaceRules x = new PlaceRules();
            x.unit(0, 0, 0);
            x.unit(0, 0, 0);
            x.nature(0, n, 7 - n, LAST_DAY);
            x.nature(1, n, 7 - n, LAST_DAY);
            x.put(1, 0, 0);
            x.limit(0, 0, 1);
            for (int k = 0; k <= 7; k++) {
                x.rule(1 + k, Kinds.HAZARD, k, k);
                x.rule(11 + k, Kinds.ZONE, k, 0);
            }
            x.may(0, 0, 0);
            check.due("only hazard " + n, 2 * n, x.explain(0));
            check.due("only class " + (7 - n), 2 * (7 - n) + 1, x.explain(1));
            check.due("no more", -1, x.explain(2));
        }
        PlaceRules y = new PlaceRules();
        y.unit(0, 0, 0);
        y.rule(1, Kinds.DAYS, 0, 0);
        y.nature(0, 0, 0, 0);
        check.due("last day 0 on day 0", 0, y.may(0, 0, 0));
        check.due("last day 0 on day 1", 1, y.may(0, 0, 1));
        y.nature(0, 0, 0, LAST_DAY);
        check.due("last day 1000 on day 1000", 0, y.may(0, 0, LAST_DAY));
        y.nature(0, 0, 0, 999);
        check.due("last day 999 on day 1000", 1, y.may(0, 0, LAST_DAY));
    }

    private void sizeAndNatureOnceTaken() {
        check.sentence(5, "IllegalStateException: it stands somewhere.");
        PlaceRules x = new PlaceRules();
        x.unit(0, 0, 0);
        x.rule(9, Kinds.WEIGHT, 0, 0);
        x.rule(9, Kinds.DAYS, 1, 0);
        x.limit(1, 10, 0);
        for (int place = 0; place < PLACES; place += 11) {
            int there = place;
            check.due("put", 0, x.put(0, there, 0));
            check.throwing("size at " + there, IllegalStateException.class, () -> x.size(0, 1, 1, 1, 1));
            check.throwing("nature at " + there, IllegalStateException.class, () -> x.nature(0, 1, 1, 1));
        }
        x.take(0);
        x.size(0, 1, 1, 1, 10);
        check.due("size when it stands nowhere", 0, x.may(0, 1, 0));
        x.nature(0, 0, 0, 0);
        check.due("nature when it stands nowhere", 2, x.may(0, 1, 0));
        PlaceRules y = new PlaceRules();
        y.unit(0, 0, 0);
        y.rule(1, Kinds.UNITS, 1, 0);
        y.unit(0, 0, 0);
        y.put(0, 0, 0);
        check.due("a put that is refused", 1, y.put(1, 0, 0));
        y.size(1, 5, 5, 5, 5);
        y.place(1, 5, 5, 5);
        check.due("leaves it nowhere, so that its size may change", 0, y.turned(1, 1));
    }

    private void unitStandsAtOnePlaceOrNowhere() {
        check.sentence(14, "A unit stands at one place or nowhere.");
        PlaceRules x = new PlaceRules();
        x.unit(0, 0, 0);
        for (int place = 0; place < PLACES; place++) {
            check.due("put to " + place, 0, x.put(0, place, 0));
            for (int other = 0; other < PLACES; other++) {
                check.due("at(" + other + ", 0)", other == place ? 0 : -1, x.at(other, 0));
            }
        }
        x.take(0);
        for (int place = 0; place < PLACES; place++) {
            check.due("taken from " + place, -1, x.at(place, 0));
        }
    }

    private void endsOfRules() {
        check.sentence(7, "a RANK 1 .. 100, a kind, numbers a and b");
        for (int kind = 0; kind < Kinds.HOW_MANY; kind++) {
            PlaceRules x = new PlaceRules();
            int least = Kinds.LEAST[kind];
            int most = Kinds.MOST[kind];
            check.due("rank 1, least a, of " + Kinds.NAMES[kind], 0, x.rule(1, kind, least, 0));
            check.due("rank 100, most a, of " + Kinds.NAMES[kind], 1, x.rule(100, kind, most, 0));
            check.due("most b of " + Kinds.NAMES[kind], 2, x.rule(100, kind, least, Kinds.mostSecond(kind)));
            check.due("three rules", 3, x.count(0));
            check.due("one clash", 1, x.count(3));
        }
    }

    private void twentyFourRules() {
        check.sentence(7, "RULES, at most 24, as they come");
        PlaceRules x = new PlaceRules();
        for (int i = 0; i < 24; i++) {
            check.due("rule number " + i, i, x.rule(100 - i, Kinds.OWN, i % 4, 0));
            check.due("how many", i + 1, x.count(0));
        }
        check.throwing("the 25th rule", UnsupportedOperationException.class, () -> x.rule(1, Kinds.OWN, 0, 0));
        check.due("twenty-four", 24, x.count(0));
        x.unit(0, 0, 0);
        for (int k = 0; k <= 3; k++) {
            x.own(k, 1);
        }
        check.due("the last one is asked first", 24, x.may(0, 0, 0));
        for (int i = 0; i < 24; i++) {
            check.due("explain(" + i + ")", 23 - i, x.explain(i));
        }
        check.due("no more", -1, x.explain(24));
    }

    private void fourOwnRules() {
        check.sentence(10, "the own rule a (0 .. 3) says so");
        for (int k = 0; k <= 3; k++) {
            PlaceRules x = new PlaceRules();
            x.unit(0, 0, 0);
            for (int a = 0; a <= 3; a++) {
                x.rule(1, Kinds.OWN, a, 0);
            }
            x.own(k, 1);
            check.due("own rule " + k + " alone says no", k + 1, x.may(0, 0, 0));
            check.due("no other", -1, x.explain(1));
            x.own(k, 3);
            check.due("own rule " + k + " alone fails", k + 1, x.may(0, 0, 0));
            check.due("no other", -1, x.explain(1));
            x.own(k, 2);
            check.due("own rule " + k + " alone says no to heavier ones", k + 1, x.may(0, 0, 0));
            x.own(k, 0);
            check.due("own rule " + k + " says yes again", 0, x.may(0, 0, 0));
        }
    }

    private void endsOfExceptions() {
        check.sentence(11, "An exception (day 0 .. 1000).");
        for (int place = -1; place < PLACES; place++) {
            for (int owner = -1; owner <= 7; owner++) {
                PlaceRules x = new PlaceRules();
                x.unit(0, 0, Math.max(owner, 0));
                x.rule(1, Kinds.OWN, 0, 0);
                x.own(0, 1);
                x.except(0, place, owner, 0);
                int there = Math.max(place, 0);
                check.due("place " + place + ", owner " + owner + ", day 0", 0, x.may(0, there, 0));
                check.due("place " + place + ", owner " + owner + ", day 1", 1, x.may(0, there, 1));
                x.except(0, place, owner, LAST_DAY);
                check.due("place " + place + ", owner " + owner + ", day 1000", 0, x.may(0, there, LAST_DAY));
                check.due("one exception", 1, x.count(2));
            }
        }
    }

    private void exceptionUpToItsDay() {
        check.sentence(11, "takes a rule away .. up to a day, that day too");
        PlaceRules x = new PlaceRules();
        x.unit(0, 0, 0);
        x.rule(1, Kinds.OWN, 0, 0);
        x.own(0, 1);
        x.except(0, -1, -1, 500);
        int[][] days = {{0, 0}, {499, 0}, {500, 0}, {501, 1}, {LAST_DAY, 1}};
        for (int[] d : days) {
            check.due("day " + d[0], d[1], x.may(0, 0, d[0]));
        }
    }

    private void exceptionForAllOrOne() {
        check.sentence(11, "An EXCEPTION takes a rule away for a place (or all: -1) and an owner (or all: -1)");
        PlaceRules x = new PlaceRules();
        for (int owner = 0; owner <= 7; owner++) {
            x.unit(0, 0, owner);
        }
        x.own(0, 1);
        int[][] exceptions = {{3, 4}, {-1, 4}, {3, -1}, {-1, -1}};
        for (int i = 0; i < exceptions.length; i++) {
            x.rule(1 + i, Kinds.OWN, 0, 0);
            x.except(i, exceptions[i][0], exceptions[i][1], LAST_DAY);
        }
        for (int n = 0; n < 8 * PLACES; n++) {
            int owner = n / PLACES;
            int place = n % PLACES;
            x.may(owner, place, 7);
            int nth = 0;
            for (int i = 0; i < exceptions.length; i++) {
                boolean taken = (exceptions[i][0] == -1 || place == 3) && (exceptions[i][1] == -1 || owner == 4);
                if (!taken) {
                    check.due("owner " + owner + ", place " + place, i, x.explain(nth));
                    nth++;
                }
            }
            check.due("owner " + owner + ", place " + place + ", no more", -1, x.explain(nth));
        }
    }

    private void sameExceptionAgain() {
        check.sentence(11, "The same again: the later day counts.");
        int[][] again = {{-1, -1}, {0, 0}, {-1, 0}, {0, -1}};
        for (int[] e : again) {
            PlaceRules x = new PlaceRules();
            x.unit(0, 0, 0);
            x.rule(1, Kinds.OWN, 0, 0);
            x.own(0, 1);
            x.except(0, 1, 1, LAST_DAY);
            x.except(0, e[0], e[1], 10);
            x.except(0, e[0], e[1], 5);
            check.due("an earlier day does not count", 0, x.may(0, 0, 10));
            x.except(0, e[0], e[1], 10);
            check.due("the same day", 1, x.may(0, 0, 11));
            x.except(0, e[0], e[1], 11);
            check.due("a later day counts", 0, x.may(0, 0, 11));
            check.due("and not more", 1, x.may(0, 0, 12));
            check.due("it is one exception beside the other", 2, x.count(2));
        }
    }

    private void exceptionsThatAreNotTheSame() {
        check.sentence(11, "The same again: the later day counts.");
        PlaceRules x = new PlaceRules();
        x.unit(0, 0, 0);
        x.rule(1, Kinds.OWN, 0, 0);
        x.rule(2, Kinds.OWN, 0, 0);
        x.own(0, 1);
        x.except(0, 0, 0, 10);
        x.except(0, -1, 0, 5);
        x.except(0, 0, -1, 5);
        x.except(1, 0, 0, 5);
        check.due("other places, owners and rules are not the same", 4, x.count(2));
        check.due("the first one holds to its own day", 2, x.may(0, 0, 10));
        check.due("and no other does", -1, x.explain(1));
        check.due("both rules are taken away", 0, x.may(0, 0, 5));
        check.due("all places up to day 5, for one rule", 2, x.may(0, 9, 5));
        check.due("not on day 6", 1, x.may(0, 9, 6));
    }

    private void twentyExceptions() {
        check.sentence(11, "UnsupportedOperationException: there are twenty.");
        PlaceRules x = new PlaceRules();
        x.unit(0, 0, 7);
        x.own(0, 1);
        for (int i = 0; i < 20; i++) {
            x.rule(1 + i, Kinds.OWN, 0, 0);
            x.except(i, 11, 7, 100 + i);
            check.due("how many", i + 1, x.count(2));
        }
        check.throwing("the 21st", UnsupportedOperationException.class, () -> x.except(0, 10, 7, 0));
        check.due("twenty", 20, x.count(2));
        for (int day = 100; day <= 120; day++) {
            check.due("day " + day, day == 100 ? 0 : 1, x.may(0, 11, day));
            int refusing = day - 100;
            if (refusing > 0) {
                check.due("the last that refuses on day " + day, refusing - 1, x.explain(refusing - 1));
            }
            check.due("no more on day " + day, -1, x.explain(refusing));
        }
        check.sentence(11, "The same again: the later day counts. (it needs no room)");
        x.except(19, 11, 7, 1000);
        x.except(0, 11, 7, 1000);
        check.due("twenty still", 20, x.count(2));
        check.due("the first rule is taken away, the second is not", 2, x.may(0, 11, 1000));
        check.due("the last but one is the last that refuses", 18, x.explain(17));
        check.due("the last is taken away", -1, x.explain(18));
    }
}
