/** Boundary cases of the eleven kinds of rules, the order of asking, and what is asked (promise 12 with 'Terms'). */
public final class BoundaryKindsTest {
    private static final int NEVER_SO_MANY = 20;

    private final Check check = new Check();

    public static void main(String[] args) {
        BoundaryKindsTest test = new BoundaryKindsTest();
        test.sizeUpright();
        test.sizeSomehow();
        test.weightAtTheLimit();
        test.weightOfOthers();
        test.goods();
        test.lots();
        test.owners();
        test.hazardBothWays();
        test.hazardOfItsOwn();
        test.zone();
        test.units();
        test.dates();
        test.days();
        test.ownSaysNo();
        test.ownSaysNoToHeavier();
        test.ownFails();
        test.othersButForItself();
        test.othersElsewhere();
        test.orderOfAsking();
        test.allRulesAreAsked();
        test.mayAnswers();
        test.check.end();
    }

    private static PlaceRules withUnits(int howMany) {
        PlaceRules x = new PlaceRules();
        for (int i = 0; i < howMany; i++) {
            x.unit(0, 0, 0);
        }
        return x;
    }

    private void sizeUpright() {
        check.sentence(12, "a 0: the unit fits neither as it is nor with width and depth in each other's place");
        int[][] places = {{10, 20, 30, 0}, {20, 10, 30, 0}, {20, 20, 30, 0}, {10, 30, 20, 1}, {20, 30, 10, 1},
            {30, 10, 20, 1}, {30, 20, 10, 1}, {30, 30, 29, 1}, {9999, 9999, 29, 1}};
        for (int[] p : places) {
            check.due("10 x 20 x 30 in " + p[0] + " x " + p[1] + " x " + p[2], p[3], sizeAsked(0, p[0], p[1], p[2]));
        }
        check.sentence(12, "It fits if its width, depth and height, so, are not above the place's.");
        int[][] tooSmall = {{9, 20, 30}, {10, 19, 30}, {10, 20, 29}, {19, 10, 30}, {20, 9, 30}, {20, 10, 29},
            {9, 9999, 9999}, {9999, 9, 9999}, {19, 19, 9999}};
        for (int[] p : tooSmall) {
            check.due("10 x 20 x 30 in " + p[0] + " x " + p[1] + " x " + p[2], 1, sizeAsked(0, p[0], p[1], p[2]));
        }
    }

    private void sizeSomehow() {
        check.sentence(12, "a 1: it fits in none of its six ways to lie");
        int[][] ways = {{10, 20, 30}, {10, 30, 20}, {20, 10, 30}, {20, 30, 10}, {30, 10, 20}, {30, 20, 10}};
        for (int[] p : ways) {
            String in = "10 x 20 x 30 in " + p[0] + " x " + p[1] + " x " + p[2];
            check.due(in, 0, sizeAsked(1, p[0], p[1], p[2]));
            check.due(in + ", one less wide", 1, sizeAsked(1, p[0] - 1, p[1], p[2]));
            check.due(in + ", one less deep", 1, sizeAsked(1, p[0], p[1] - 1, p[2]));
            check.due(in + ", one less high", 1, sizeAsked(1, p[0], p[1], p[2] - 1));
        }
        check.due("room enough, but too flat", 1, sizeAsked(1, 9999, 9999, 9));
        check.due("no length that holds 30", 1, sizeAsked(1, 29, 29, 29));
        check.due("only one length that holds 20", 1, sizeAsked(1, 19, 19, 9999));
    }

    private static int sizeAsked(int a, int width, int depth, int height) {
        PlaceRules x = withUnits(1);
        x.size(0, 10, 20, 30, 1);
        x.rule(1, Kinds.SIZE, a, 0);
        x.place(0, width, depth, height);
        return x.may(0, 0, 0);
    }

    private void weightAtTheLimit() {
        check.sentence(12, "its grams and those of the others are above the limit less a (0 .. 100000)");
        int[][] cases = {{1000, 0, 1000, 0}, {1001, 0, 1000, 1}, {999, 0, 1000, 0}, {999, 1, 1000, 0},
            {1000, 1, 1000, 1}, {1, 99999, 100000, 0}, {1, 100000, 100000, 1}, {2, 99999, 100000, 1},
            {1, 100000, 0, 1}, {1, 0, 0, 1}, {1, 1, 0, 1}, {1, 100000, 99999, 1}, {1, 100000, 100001, 0},
            {1000000, 100000, 1100000, 0}, {1000000, 100000, 1099999, 1}, {1000000, 0, 10000000, 0}};
        for (int[] c : cases) {
            PlaceRules x = withUnits(1);
            x.size(0, 1, 1, 1, c[0]);
            x.rule(1, Kinds.WEIGHT, c[1], 0);
            x.limit(0, c[2], 0);
            check.due(c[0] + " grams, limit " + c[2] + " less " + c[1], c[3], x.may(0, 0, 0));
        }
    }

    private void weightOfOthers() {
        check.sentence(12, "its grams and those of the others are above the limit less a");
        PlaceRules x = withUnits(4);
        for (int i = 0; i < 3; i++) {
            x.size(i, 1, 1, 1, 100 * (i + 1));
        }
        x.rule(1, Kinds.WEIGHT, 50, 0);
        x.limit(0, 650, 0);
        check.due("100 grams", 0, x.put(0, 0, 0));
        check.due("300 grams together", 0, x.put(1, 0, 0));
        check.due("600 grams together", 0, x.put(2, 0, 0));
        x.size(3, 1, 1, 1, 1);
        check.due("601 grams together", 1, x.put(3, 0, 0));
        x.limit(0, 651, 0);
        check.due("601 grams, limit 651 less 50", 0, x.put(3, 0, 0));
        PlaceRules y = withUnits(40);
        y.rule(1, Kinds.WEIGHT, 0, 0);
        y.limit(0, 10000000, 0);
        y.rule(2, Kinds.OWN, 0, 0);
        for (int i = 0; i < 40; i++) {
            y.size(i, 1, 1, 1, 1000000);
            check.due("a million grams, number " + (i + 1), i < 10 ? 0 : 1, y.put(i, 0, 0));
        }
        y.except(0, -1, -1, 0);
        for (int i = 10; i < 40; i++) {
            check.due("taken away, number " + (i + 1), 0, y.put(i, 0, 0));
        }
        check.due("forty million grams", 1, y.may(0, 0, 1));
    }

    private void goods() {
        check.sentence(12, "there would be more than a (1 .. 20) different goods");
        for (int a = 1; a <= NEVER_SO_MANY; a++) {
            PlaceRules x = new PlaceRules();
            x.rule(1, Kinds.GOODS, a, 0);
            for (int i = 0; i <= a; i++) {
                x.unit(i * 4, 0, i % 8);
                check.due("good number " + (i + 1) + " of " + a, i < a ? 0 : 1, x.put(i, 0, 0));
            }
            int same = x.unit(0, 9, 0);
            check.due("a good that is there, of " + a, 0, x.put(same, 0, 0));
        }
    }

    private void lots() {
        check.sentence(12, "there would be more than a (1 .. 20) different .. lots of its own good");
        for (int a = 1; a <= NEVER_SO_MANY; a++) {
            PlaceRules x = new PlaceRules();
            x.rule(1, Kinds.LOTS, a, 0);
            for (int i = 0; i <= a; i++) {
                x.unit(99, 99 - i * 4, i % 8);
                check.due("lot number " + (i + 1) + " of " + a, i < a ? 0 : 1, x.put(i, 0, 0));
            }
            check.due("a lot that is there, of " + a, 0, x.put(x.unit(99, 99, 0), 0, 0));
            check.due("a lot of another good, of " + a, 0, x.put(x.unit(98, 50, 0), 0, 0));
            check.due("the same lot of another good is none of its own", 1, x.put(x.unit(99, 50, 0), 0, 0));
        }
    }

    private void owners() {
        check.sentence(12, "there would be more than a (1 .. 20) different .. owners");
        for (int a = 1; a <= NEVER_SO_MANY; a++) {
            PlaceRules x = new PlaceRules();
            x.rule(1, Kinds.OWNERS, a, 0);
            for (int owner = 0; owner <= 7; owner++) {
                x.unit(owner, owner, owner);
                check.due("owner " + owner + " of " + a, owner < a ? 0 : 1, x.put(owner, 0, 0));
            }
            check.due("an owner who is there, of " + a, 0, x.put(x.unit(0, 0, 0), 0, 0));
        }
    }

    private void hazardBothWays() {
        check.sentence(12, "its hazard is a and one of the others has b, or the other way round (a, b 0 .. 7)");
        for (int n = 0; n < 64; n++) {
            int its = n / 8;
            int others = n % 8;
            check.due(its + " beside " + others + ", a its, b the other's", 1, hazardAsked(its, others, its, others));
            check.due(its + " beside " + others + ", the other way round", 1, hazardAsked(its, others, others, its));
            int another = (others + 1) % 8;
            check.due(its + " beside " + others + ", a its, b another", 0, hazardAsked(its, others, its, another));
        }
        check.due("its hazard is a, the other's too", 0, hazardAsked(1, 1, 1, 2));
        check.due("its hazard is b, the other's too", 0, hazardAsked(2, 2, 1, 2));
        check.due("neither", 0, hazardAsked(3, 4, 1, 2));
        check.sentence(12, "one of the others has b");
        PlaceRules x = withUnits(4);
        x.nature(0, 1, 0, 0);
        x.nature(1, 3, 0, 0);
        x.nature(2, 2, 0, 0);
        x.nature(3, 3, 0, 0);
        for (int i = 1; i <= 3; i++) {
            x.put(i, 0, 0);
        }
        x.rule(1, Kinds.HAZARD, 1, 2);
        check.due("one of three has it", 1, x.may(0, 0, 0));
        x.take(2);
        check.due("none of two has it", 0, x.may(0, 0, 0));
    }

    private static int hazardAsked(int its, int others, int a, int b) {
        PlaceRules x = withUnits(2);
        x.nature(0, its, 0, 0);
        x.nature(1, others, 0, 0);
        x.put(1, 0, 0);
        x.rule(1, Kinds.HAZARD, a, b);
        return x.may(0, 0, 0);
    }

    private void hazardOfItsOwn() {
        check.sentence(12, "the others being the units that stand there but for itself");
        for (int hazard = 0; hazard <= 7; hazard++) {
            PlaceRules x = withUnits(2);
            x.nature(0, hazard, 0, 0);
            x.nature(1, hazard, 0, 0);
            x.rule(1, Kinds.HAZARD, hazard, hazard);
            check.due("alone with hazard " + hazard, 0, x.put(0, 0, 0));
            check.due("itself is no other with hazard " + hazard, 0, x.may(0, 0, 0));
            check.due("two of hazard " + hazard, 1, x.put(1, 0, 0));
        }
    }

    private void zone() {
        check.sentence(12, "its class is a and the zone is not b (0 .. 7 both)");
        for (int n = 0; n < 64; n++) {
            int group = n / 8;
            int zone = n % 8;
            PlaceRules x = withUnits(1);
            x.nature(0, 7 - group, group, 0);
            x.limit(0, 0, zone);
            x.rule(1, Kinds.ZONE, group, zone);
            check.due("class " + group + " in zone " + zone, 0, x.may(0, 0, 0));
            x.rule(1, Kinds.ZONE, group, (zone + 1) % 8);
            check.due("class " + group + " not in zone " + (zone + 1) % 8, 2, x.may(0, 0, 0));
            x.rule(1, Kinds.ZONE, (group + 1) % 8, (zone + 1) % 8);
            x.may(0, 0, 0);
            check.due("a rule for class " + (group + 1) % 8, -1, x.explain(1));
        }
    }

    private void units() {
        check.sentence(12, "units: with it there would be more than a (1 .. 40)");
        for (int a = 1; a <= 40; a++) {
            PlaceRules x = new PlaceRules();
            x.rule(1, Kinds.UNITS, a, 0);
            for (int i = 0; i < 40; i++) {
                x.unit(0, 0, 0);
                check.due("unit number " + (i + 1) + " of " + a, i < a ? 0 : 1, x.put(i, 0, 0));
            }
            check.due("one that stands there, of " + a, 0, x.may(0, 0, 0));
            check.due("so many stand there", a - 1, x.at(0, a - 1));
            check.due("no more stand there", -1, x.at(0, a));
        }
    }

    private void dates() {
        check.sentence(12, "the greatest is more than a (0 .. 1000) above the least");
        int[][] cases = {{500, 500, 0, 0}, {500, 501, 0, 1}, {501, 500, 0, 1}, {500, 510, 10, 0}, {500, 511, 10, 1},
            {510, 500, 10, 0}, {511, 500, 10, 1}, {0, 1000, 1000, 0}, {1000, 0, 1000, 0}, {0, 1000, 999, 1},
            {1000, 0, 999, 1}, {0, 0, 0, 0}, {1000, 1000, 0, 0}};
        for (int[] c : cases) {
            PlaceRules x = withUnits(2);
            x.nature(0, 0, 0, c[0]);
            x.nature(1, 0, 0, c[1]);
            x.rule(1, Kinds.DATES, c[2], 0);
            check.due("alone with " + c[1], 0, x.put(1, 0, 0));
            check.due(c[0] + " beside " + c[1] + ", " + c[2] + " apart", c[3], x.may(0, 0, 0));
        }
        check.sentence(12, "of its last day and those of the others");
        PlaceRules y = withUnits(3);
        y.nature(0, 0, 0, 100);
        y.nature(1, 0, 0, 130);
        y.nature(2, 0, 0, 115);
        y.put(0, 0, 0);
        y.put(1, 0, 0);
        y.rule(1, Kinds.DATES, 29, 0);
        check.due("two others too far apart, its own between them", 1, y.may(2, 0, 0));
        y.rule(1, Kinds.DATES, 30, 0);
        y.may(2, 0, 0);
        check.due("two others 30 apart", -1, y.explain(1));
        check.due("itself is none of the others", 0, y.may(1, 1, 0));
    }

    private void days() {
        check.sentence(12, "its last day is less than a (0 .. 1000) behind the day");
        int[][] cases = {{500, 500, 0, 0}, {500, 501, 0, 1}, {500, 499, 0, 0}, {500, 490, 10, 0}, {500, 491, 10, 1},
            {500, 489, 10, 0}, {0, 0, 0, 0}, {0, 1, 0, 1}, {0, 1000, 0, 1}, {0, 0, 1, 1}, {1000, 0, 1000, 0},
            {1000, 1, 1000, 1}, {999, 0, 1000, 1}, {1000, 1000, 0, 0}, {1000, 1000, 1, 1}, {0, 1000, 1000, 1},
            {500, 600, 100, 1}};
        for (int[] c : cases) {
            PlaceRules x = withUnits(1);
            x.nature(0, 0, 0, c[0]);
            x.rule(1, Kinds.DAYS, c[2], 0);
            check.due("last day " + c[0] + " on day " + c[1] + ", a " + c[2], c[3], x.may(0, 0, c[1]));
        }
        PlaceRules y = withUnits(2);
        y.nature(1, 0, 0, 0);
        y.put(1, 0, 0);
        y.rule(1, Kinds.DAYS, 0, 0);
        check.due("the others' last days do not count", 0, y.may(0, 0, 1000));
    }

    private void ownSaysNo() {
        check.sentence(12, "An OWN RULE says 0 yes, 1 no to all");
        PlaceRules x = withUnits(2);
        x.put(1, 0, 0);
        x.size(0, 1, 1, 1, 1);
        x.rule(1, Kinds.OWN, 1, 0);
        check.due("yes to a light one", 0, x.may(0, 0, 0));
        check.due("yes to one that is alone", 0, x.may(0, 1, 0));
        x.own(1, 1);
        check.due("no to a light one", 1, x.may(0, 0, 0));
        check.due("no to one that is alone", 1, x.may(0, 1, 0));
        check.due("no to one that stands there", 1, x.may(1, 0, 0));
        check.due("that is no failure", 0, x.count(5));
    }

    private void ownSaysNoToHeavier() {
        check.sentence(12, "2 no to units heavier than the others together");
        PlaceRules x = withUnits(3);
        x.size(1, 1, 1, 1, 300);
        x.size(2, 1, 1, 1, 400);
        x.put(1, 0, 0);
        x.put(2, 0, 0);
        x.rule(1, Kinds.OWN, 0, 0);
        x.own(0, 2);
        int[][] cases = {{699, 0}, {700, 0}, {701, 1}, {400, 0}, {1, 0}, {1000000, 1}};
        for (int[] c : cases) {
            x.size(0, 1, 1, 1, c[0]);
            check.due(c[0] + " grams beside 300 and 400", c[1], x.may(0, 0, 0));
        }
        x.size(0, 1, 1, 1, 1);
        check.due("one gram where there are no others", 1, x.may(0, 1, 0));
        check.due("itself is none of the others", 1, x.may(2, 0, 0));
        check.due("300 beside 400", 0, x.may(1, 0, 0));
        check.due("that is no failure", 0, x.count(5));
    }

    private void ownFails() {
        check.sentence(12, "3 it fails: that refuses, too, and is told by count(5), as often as it was asked");
        PlaceRules x = withUnits(1);
        x.rule(3, Kinds.OWN, 2, 0);
        x.own(2, 3);
        check.due("a rule that was not asked did not fail", 0, x.count(5));
        for (int i = 1; i <= 3; i++) {
            check.due("it refuses", 1, x.may(0, 0, 0));
            check.due("as often as asked by may()", i, x.count(5));
        }
        check.due("it refuses put()", 1, x.put(0, 0, 0));
        check.due("as often as asked by put()", 4, x.count(5));
        x.rule(1, Kinds.OWN, 2, 0);
        x.rule(2, Kinds.UNITS, 40, 0);
        check.due("two rules ask it", 2, x.may(0, 0, 0));
        check.due("so it fails twice", 6, x.count(5));
        x.own(1, 3);
        x.may(0, 0, 0);
        check.due("an own rule that no rule asks does not fail", 8, x.count(5));
        x.rule(4, Kinds.OWN, 1, 0);
        x.may(0, 0, 0);
        check.due("two own rules fail", 11, x.count(5));
        x.except(0, -1, -1, 5);
        x.may(0, 0, 5);
        check.due("a rule with an exception is not asked", 13, x.count(5));
        x.own(2, 0);
        x.own(1, 0);
        check.due("yes again", 0, x.may(0, 0, 0));
        x.explain(0);
        x.turned(0, 0);
        check.due("what failed stays told", 13, x.count(5));
        for (int says = 0; says <= 2; says++) {
            x.own(2, says);
            x.may(0, 0, 0);
            check.due("saying " + says + " is no failure", 13, x.count(5));
        }
    }

    private void othersButForItself() {
        check.sentence(12, "the others being the units that stand there but for itself");
        PlaceRules x = withUnits(2);
        x.size(0, 1, 1, 1, 60);
        x.put(0, 0, 0);
        x.limit(0, 60, 0);
        x.rule(1, Kinds.WEIGHT, 0, 0);
        x.rule(2, Kinds.UNITS, 1, 0);
        check.due("it stands there and counts once", 0, x.may(0, 0, 0));
        check.due("another does not", 1, x.may(1, 0, 0));
        check.due("for both rules", 1, x.explain(1));
        x.take(0);
        x.size(1, 1, 1, 1, 60);
        check.due("once it is taken, another may", 0, x.may(1, 0, 0));
    }

    private void othersElsewhere() {
        check.sentence(12, "the units that stand there");
        PlaceRules x = new PlaceRules();
        for (int i = 0; i < 3; i++) {
            x.unit(i, i, i);
        }
        x.nature(0, 1, 0, 0);
        x.put(0, 1, 0);
        x.rule(1, Kinds.UNITS, 1, 0);
        x.rule(2, Kinds.GOODS, 1, 0);
        x.rule(3, Kinds.OWNERS, 1, 0);
        x.rule(4, Kinds.DATES, 0, 0);
        x.rule(5, Kinds.HAZARD, 0, 1);
        check.due("others at the next place, and nowhere, do not count", 0, x.may(1, 0, 0));
        check.due("others at the place do", 1, x.may(1, 1, 0));
        for (int i = 0; i < 5; i++) {
            check.due("explain(" + i + ")", i, x.explain(i));
        }
    }

    private void orderOfAsking() {
        check.sentence(12, "They are asked by rank, the lesser first, of equal ones by number.");
        int[][] ranks = {{1, 2, 3}, {3, 2, 1}, {100, 1, 100}, {1, 100, 1}, {5, 5, 5}, {2, 1, 1}, {99, 100, 98},
            {50, 50, 49}};
        int[][] orders = {{0, 1, 2}, {2, 1, 0}, {1, 0, 2}, {0, 2, 1}, {0, 1, 2}, {1, 2, 0}, {2, 0, 1}, {2, 0, 1}};
        for (int n = 0; n < ranks.length; n++) {
            PlaceRules x = withUnits(1);
            x.own(0, 1);
            for (int rank : ranks[n]) {
                x.rule(rank, Kinds.OWN, 0, 0);
            }
            check.due("the first, case " + n, orders[n][0] + 1, x.may(0, 0, 0));
            for (int i = 0; i < 3; i++) {
                check.due("explain(" + i + "), case " + n, orders[n][i], x.explain(i));
            }
        }
        PlaceRules y = withUnits(1);
        y.own(0, 1);
        y.rule(50, Kinds.OWN, 0, 0);
        for (char c : "50 own 0\n1 own 0\n100 own 0\n49 own 0".toCharArray()) {
            y.sign(c);
        }
        y.read();
        y.rule(1, Kinds.OWN, 0, 0);
        y.may(0, 0, 0);
        int[] order = {2, 5, 4, 0, 1, 3, -1};
        for (int i = 0; i < order.length; i++) {
            check.due("from text and numbers, explain(" + i + ")", order[i], y.explain(i));
        }
    }

    private void allRulesAreAsked() {
        check.sentence(12, "All rules are asked each time, but for those with an exception.");
        PlaceRules x = withUnits(1);
        x.own(3, 3);
        for (int i = 0; i < 24; i++) {
            x.rule(1 + i % 5, Kinds.OWN, 3, 0);
        }
        x.may(0, 4, 0);
        check.due("twenty-four are asked", 24, x.count(5));
        for (int i = 0; i < 20; i++) {
            x.except(i, 4, 0, 9);
        }
        x.may(0, 4, 9);
        check.due("four have no exception", 28, x.count(5));
        check.due("the first of these", 20, x.explain(0));
        check.due("the last of these", 23, x.explain(3));
        check.due("no more", -1, x.explain(4));
        x.may(0, 4, 10);
        check.due("the exceptions are over", 52, x.count(5));
        x.may(0, 5, 0);
        check.due("and were for one place", 76, x.count(5));
    }

    private void mayAnswers() {
        check.sentence(12, "0 if no rule refuses .., else one more than the first one that does");
        PlaceRules x = withUnits(1);
        check.due("no rules", 0, x.may(0, 0, 0));
        check.due("no rules, last place and day", 0, x.may(0, 11, 1000));
        x.own(0, 1);
        for (int i = 0; i < 23; i++) {
            x.rule(1, Kinds.OWN, 1, 0);
        }
        x.rule(100, Kinds.OWN, 0, 0);
        check.due("the last of 24 rules", 24, x.may(0, 0, 0));
        check.due("that is rule 23", 23, x.explain(0));
        x.own(1, 1);
        check.due("rule 0", 1, x.may(0, 0, 0));
        check.due("may() puts nothing", -1, x.at(0, 0));
    }
}
