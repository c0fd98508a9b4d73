import java.util.NoSuchElementException;

/** Boundary cases of what is told: explain, put, take, turned, never, clash, at, count (promises 13 to 20). */
public final class BoundaryAnswersTest {
    private static final int FAR = Integer.MAX_VALUE;

    private final Check check = new Check();

    public static void main(String[] args) {
        BoundaryAnswersTest test = new BoundaryAnswersTest();
        test.explainBeforeAnythingIsAsked();
        test.explainTellsAll();
        test.explainTellsOfTheLast();
        test.explainOfRefusedCalls();
        test.putIfItMayStandThere();
        test.putFromWhereItStood();
        test.putToWhereItStands();
        test.explainTellsOfPut();
        test.takeAway();
        test.turnedEachWay();
        test.turnedTheFirstWay();
        test.turnedAtTheEdge();
        test.neverAtFirst();
        test.neverUpward();
        test.neverOfPutAndExceptions();
        test.clashOfRankAndKind();
        test.clashEarlierFirst();
        test.clashMost();
        test.clashSides();
        test.atUpward();
        test.atNotSoMany();
        test.countEach();
        test.countOfAnother();
        test.fiveHundredAndTwelveCalls();
        test.check.end();
    }

    /** Units, and own rules 0 .. 3 as rules of ranks that turn their order. */
    private static PlaceRules withOwnRules(int units) {
        PlaceRules x = new PlaceRules();
        for (int i = 0; i < units; i++) {
            x.unit(0, 0, 0);
        }
        for (int k = 0; k <= 3; k++) {
            x.rule(10 - k, Kinds.OWN, k, 0);
        }
        return x;
    }

    private void explained(String when, PlaceRules x, int... due) {
        for (int i = 0; i < due.length; i++) {
            check.due(when + ", explain(" + i + ")", due[i], x.explain(i));
        }
        check.due(when + ", no more", -1, x.explain(due.length));
        check.due(when + ", far behind", -1, x.explain(FAR));
    }

    private void explainBeforeAnythingIsAsked() {
        check.sentence(13, "-1 if there are not so many, or nothing was asked");
        PlaceRules x = withOwnRules(1);
        x.own(0, 1);
        explained("nothing was asked", x);
        x.turned(0, 0);
        x.never(0);
        explained("that was no question", x);
    }

    private void explainTellsAll() {
        check.sentence(13, "The i-th rule, in the order of asking, that refuses .. (not only the first one)");
        PlaceRules x = withOwnRules(1);
        x.own(0, 1);
        x.own(2, 3);
        x.own(3, 2);
        x.may(0, 0, 0);
        explained("three of four", x, 3, 2, 0);
        PlaceRules y = new PlaceRules();
        y.unit(0, 0, 0);
        y.own(1, 1);
        for (int i = 0; i < 24; i++) {
            y.rule(1 + i % 2, Kinds.OWN, 1, 0);
        }
        y.may(0, 0, 0);
        for (int i = 0; i < 24; i++) {
            check.due("all refuse, explain(" + i + ")", i < 12 ? 2 * i : 2 * (i - 12) + 1, y.explain(i));
        }
        check.due("no 25th", -1, y.explain(24));
        check.due("far behind", -1, y.explain(FAR));
    }

    private void explainTellsOfTheLast() {
        check.sentence(13, "what may() was asked last");
        PlaceRules x = withOwnRules(2);
        x.own(0, 1);
        x.own(1, 1);
        x.may(0, 0, 0);
        explained("the first question", x, 1, 0);
        x.except(1, 5, -1, 0);
        x.may(1, 5, 0);
        explained("the second question", x, 0);
        x.except(0, 5, -1, 0);
        x.may(1, 5, 0);
        explained("a question that nothing refuses", x);
        x.may(1, 5, 1);
        explained("the day after", x, 1, 0);
    }

    private void explainOfRefusedCalls() {
        check.sentence(13, "What is refused changes nothing.");
        PlaceRules x = withOwnRules(2);
        x.own(3, 1);
        x.put(1, 4, 0);
        x.own(3, 0);
        x.put(1, 4, 0);
        x.own(3, 1);
        x.may(0, 0, 0);
        x.own(3, 0);
        x.own(2, 1);
        check.throwing("may of no unit", NoSuchElementException.class, () -> x.may(2, 0, 0));
        check.throwing("may at no place", IllegalArgumentException.class, () -> x.may(0, 12, 0));
        check.throwing("may on no day", IllegalArgumentException.class, () -> x.may(0, 0, 1001));
        check.throwing("put to where it stands", IllegalStateException.class, () -> x.put(1, 4, 0));
        explained("as it was asked", x, 3);
    }

    private void putIfItMayStandThere() {
        check.sentence(14, "A unit is put to a place, if it may stand there: as may()");
        PlaceRules x = withOwnRules(1);
        check.due("the first place", 0, x.put(0, 0, 0));
        check.due("it stands there", 0, x.at(0, 0));
        check.due("the last place and day", 0, x.put(0, 11, 1000));
        check.due("it stands at the last place", 0, x.at(11, 0));
        x.take(0);
        x.own(2, 1);
        check.due("one more than the rule that refuses", 3, x.put(0, 5, 0));
        check.due("it does not stand there", -1, x.at(5, 0));
        x.own(3, 3);
        check.due("the first one that refuses", 4, x.put(0, 5, 0));
        check.throwing("it stands nowhere", IllegalStateException.class, () -> x.take(0));
    }

    private void putFromWhereItStood() {
        check.sentence(14, "from where it stood");
        PlaceRules x = withOwnRules(2);
        x.put(0, 3, 0);
        x.put(1, 3, 0);
        check.due("moved", 0, x.put(0, 4, 0));
        check.due("the other stays", 1, x.at(3, 0));
        check.due("it left", -1, x.at(3, 1));
        check.due("it came", 0, x.at(4, 0));
        x.own(0, 1);
        check.due("refused", 1, x.put(0, 5, 0));
        check.due("it stays where it stood", 0, x.at(4, 0));
        check.due("it did not come", -1, x.at(5, 0));
        x.take(0);
        check.due("it can be taken from there", -1, x.at(4, 0));
    }

    private void putToWhereItStands() {
        check.sentence(14, "IllegalStateException: it stands there.");
        PlaceRules x = withOwnRules(1);
        for (int place = 0; place <= 11; place++) {
            int there = place;
            x.put(0, there, 0);
            check.throwing("again to " + there, IllegalStateException.class, () -> x.put(0, there, 0));
            check.due("it stands there", 0, x.at(there, 0));
        }
        x.take(0);
        check.due("taken, it is put again", 0, x.put(0, 11, 0));
        x.take(0);
        x.own(0, 1);
        check.due("a put that was refused", 1, x.put(0, 2, 0));
        check.due("can be tried again", 1, x.put(0, 2, 0));
        x.own(0, 0);
        check.due("until it may", 0, x.put(0, 2, 0));
    }

    private void explainTellsOfPut() {
        check.sentence(14, "(explain() tells of it, too.)");
        PlaceRules x = withOwnRules(1);
        x.own(1, 1);
        x.own(3, 1);
        x.put(0, 0, 0);
        explained("a put that was refused", x, 3, 1);
        x.own(1, 0);
        x.own(3, 0);
        x.put(0, 0, 0);
        explained("a put that was not", x);
    }

    private void takeAway() {
        check.sentence(15, "It is taken away. IllegalStateException: it stands nowhere.");
        PlaceRules x = withOwnRules(40);
        check.throwing("a new unit", IllegalStateException.class, () -> x.take(39));
        for (int unit = 0; unit < 40; unit += 39) {
            int its = unit;
            x.put(its, 11, 0);
            check.due("it stands", its, x.at(11, 0));
            x.take(its);
            check.due("it is away", -1, x.at(11, 0));
            check.throwing("it stands nowhere", IllegalStateException.class, () -> x.take(its));
        }
        x.put(0, 0, 0);
        x.put(1, 0, 0);
        x.put(2, 0, 0);
        x.take(1);
        check.due("the first stays", 0, x.at(0, 0));
        check.due("the third is the second", 2, x.at(0, 1));
        check.due("no more", -1, x.at(0, 2));
        check.due("a unit that is taken away is a unit still", 40, x.count(1));
    }

    private void turnedEachWay() {
        check.sentence(16, "0 w d h, 1 w h d, 2 d w h, 3 d h w, 4 h w d, 5 h d w (its sizes along the place's ..)");
        PlaceRules x = new PlaceRules();
        x.unit(0, 0, 0);
        int[][] ways = {{0, 1, 2}, {0, 2, 1}, {1, 0, 2}, {1, 2, 0}, {2, 0, 1}, {2, 1, 0}};
        int[][] sizes = {{10, 20, 30}, {30, 20, 10}, {20, 30, 10}, {1, 5000, 9999}};
        for (int[] s : sizes) {
            x.size(0, s[0], s[1], s[2], 1);
            for (int way = 0; way < 6; way++) {
                int[] w = ways[way];
                x.place(way, s[w[0]], s[w[1]], s[w[2]]);
                check.due("way " + way + " of " + s[0] + " x " + s[1] + " x " + s[2], way, x.turned(0, way));
            }
        }
    }

    private void turnedTheFirstWay() {
        check.sentence(16, "The first way in which a unit fits a place");
        int[][] cases = {{9999, 9999, 9999, 0}, {30, 30, 30, 0}, {30, 30, 29, 1}, {10, 30, 30, 0}, {20, 30, 20, 1},
            {20, 20, 30, 0}, {20, 10, 9999, 2}, {20, 30, 10, 3}, {30, 30, 10, 3}, {30, 10, 29, 4}, {30, 19, 29, 4},
            {30, 20, 19, 5}, {30, 29, 10, 5}, {30, 29, 19, 5}, {30, 20, 20, 4}, {30, 10, 30, 2}};
        for (int[] c : cases) {
            PlaceRules x = new PlaceRules();
            x.unit(0, 0, 0);
            x.size(0, 10, 20, 30, 1);
            x.place(0, c[0], c[1], c[2]);
            check.due("10 x 20 x 30 in " + c[0] + " x " + c[1] + " x " + c[2], c[3], x.turned(0, 0));
        }
        PlaceRules y = new PlaceRules();
        y.unit(0, 0, 0);
        y.place(0, 100, 100, 100);
        check.due("a unit whose sizes are equal", 0, y.turned(0, 0));
        y.size(0, 20, 20, 10, 1);
        y.place(0, 20, 10, 20);
        check.due("a unit of which two sizes are equal", 1, y.turned(0, 0));
        y.place(0, 10, 20, 20);
        check.due("its height along the width", 4, y.turned(0, 0));
    }

    private void turnedAtTheEdge() {
        check.sentence(16, "-1 if none");
        PlaceRules x = new PlaceRules();
        x.unit(0, 0, 0);
        x.unit(0, 0, 0);
        x.size(0, 10, 20, 30, 1);
        int[][] places = {{9, 9999, 9999}, {9999, 9, 9999}, {9999, 9999, 9}, {29, 29, 29}, {19, 19, 9999},
            {9999, 19, 19}, {19, 9999, 19}, {1, 1, 1}};
        for (int[] p : places) {
            x.place(11, p[0], p[1], p[2]);
            check.due("10 x 20 x 30 in " + p[0] + " x " + p[1] + " x " + p[2], -1, x.turned(0, 11));
        }
        x.place(11, 30, 20, 10);
        x.put(1, 11, 0);
        check.due("who stands there does not matter", 5, x.turned(0, 11));
        x.rule(1, Kinds.SIZE, 0, 0);
        x.turned(0, 11);
        check.due("it is no question to rules", 0, x.never(0));
    }

    private void neverAtFirst() {
        check.sentence(17, "The i-th rule (upward) that never refused ..; -1 if there are not so many");
        PlaceRules x = new PlaceRules();
        check.due("no rules", -1, x.never(0));
        check.due("no rules, far behind", -1, x.never(FAR));
        x.unit(0, 0, 0);
        for (int i = 0; i < 24; i++) {
            x.rule(24 - i, Kinds.OWN, i % 4, 0);
        }
        for (int i = 0; i < 24; i++) {
            check.due("never(" + i + ")", i, x.never(i));
        }
        check.due("never(24)", -1, x.never(24));
        check.due("far behind", -1, x.never(FAR));
        x.own(3, 1);
        check.due("no question was asked yet", 3, x.never(3));
        x.may(0, 0, 0);
        check.due("every fourth refused", 4, x.never(3));
        check.due("the last that did not", 22, x.never(17));
        check.due("no more", -1, x.never(18));
        for (int k = 0; k <= 2; k++) {
            x.own(k, 1);
        }
        x.may(0, 0, 0);
        check.due("all refused", -1, x.never(0));
    }

    private void neverUpward() {
        check.sentence(17, "that never refused what was asked by may() or put()");
        PlaceRules x = withOwnRules(1);
        x.own(0, 1);
        x.own(3, 1);
        x.may(0, 0, 0);
        check.due("not only the first refusal counts", 1, x.never(0));
        check.due("the second", 2, x.never(1));
        check.due("no more", -1, x.never(2));
        x.own(0, 0);
        x.own(3, 0);
        x.may(0, 0, 0);
        check.due("once refused is not never", 1, x.never(0));
        check.due("nor is it later", -1, x.never(2));
        x.rule(1, Kinds.SIZE, 0, 0);
        check.due("a new rule never refused", 4, x.never(2));
    }

    private void neverOfPutAndExceptions() {
        check.sentence(17, "what was asked by may() or put()");
        PlaceRules x = withOwnRules(1);
        x.own(1, 1);
        x.put(0, 0, 0);
        check.due("put() asks, too", 2, x.never(1));
        x.own(1, 0);
        x.put(0, 0, 0);
        x.own(2, 1);
        check.throwing("put to where it stands", IllegalStateException.class, () -> x.put(0, 0, 0));
        check.throwing("may at no place", IllegalArgumentException.class, () -> x.may(0, 12, 0));
        check.due("a refused call asks nothing", 2, x.never(1));
        x.except(2, -1, -1, 3);
        x.may(0, 0, 3);
        check.due("a rule with an exception is not asked", 2, x.never(1));
        x.may(0, 0, 4);
        check.due("it is asked the day after", 3, x.never(1));
    }

    private void clashOfRankAndKind() {
        check.sentence(18, "A CLASH is two rules of equal rank and kind");
        PlaceRules x = new PlaceRules();
        for (int kind = 0; kind < Kinds.HOW_MANY; kind++) {
            x.rule(50, kind, 1, 0);
        }
        x.rule(49, Kinds.SIZE, 1, 0);
        x.rule(51, Kinds.OWN, 1, 0);
        check.due("equal rank alone, or kind alone, is none", 0, x.count(3));
        check.due("clash(0, 0)", -1, x.clash(0, 0));
        for (int kind = 0; kind < Kinds.HOW_MANY; kind++) {
            x.rule(50, kind, 1, 0);
            check.due("clashes", kind + 1, x.count(3));
            check.due("the earlier", kind, x.clash(kind, 0));
            check.due("the later", 13 + kind, x.clash(kind, 1));
        }
        PlaceRules y = new PlaceRules();
        y.rule(1, Kinds.ZONE, 0, 7);
        y.rule(1, Kinds.ZONE, 7, 0);
        check.due("other numbers do not matter", 1, y.count(3));
    }

    private void clashEarlierFirst() {
        check.sentence(18, "told when the later one comes (the earlier by number first)");
        PlaceRules x = new PlaceRules();
        int[] ranks = {2, 1, 2, 1, 2};
        for (int rank : ranks) {
            x.rule(rank, Kinds.OWN, 0, 0);
        }
        int[][] due = {{0, 2}, {1, 3}, {0, 4}, {2, 4}};
        check.due("count(3)", due.length, x.count(3));
        for (int i = 0; i < due.length; i++) {
            check.due("clash(" + i + ", 0)", due[i][0], x.clash(i, 0));
            check.due("clash(" + i + ", 1)", due[i][1], x.clash(i, 1));
        }
    }

    private void clashMost() {
        check.sentence(18, "Of the i-th clash the earlier (side 0) or later rule (1)");
        PlaceRules x = new PlaceRules();
        for (int i = 0; i < 24; i++) {
            x.rule(100, Kinds.UNITS, 40, 0);
        }
        check.due("all pairs of 24 rules", 276, x.count(3));
        int i = 0;
        for (int later = 1; later < 24; later++) {
            for (int earlier = 0; earlier < later; earlier++) {
                // All would be more calls than an object is used for.
                if (earlier == 0 || earlier == later - 1 || later == 23) {
                    check.due("clash(" + i + ", 0)", earlier, x.clash(i, 0));
                    check.due("clash(" + i + ", 1)", later, x.clash(i, 1));
                }
                i++;
            }
        }
        check.sentence(18, "-1 if there are not so many");
        check.due("clash(276, 0)", -1, x.clash(276, 0));
        check.due("clash(276, 1)", -1, x.clash(276, 1));
        check.due("clash(MAX, 1)", -1, x.clash(FAR, 1));
        check.throwing("no room", UnsupportedOperationException.class, () -> x.rule(100, Kinds.UNITS, 40, 0));
        check.due("no further clash", 276, x.count(3));
    }

    private void clashSides() {
        check.sentence(18, "IllegalArgumentException: i below 0, or another side.");
        PlaceRules x = new PlaceRules();
        x.rule(1, Kinds.SIZE, 0, 0);
        x.rule(1, Kinds.SIZE, 0, 0);
        check.due("side 0", 0, x.clash(0, 0));
        check.due("side 1", 1, x.clash(0, 1));
        check.due("the next one", -1, x.clash(1, 0));
        for (int side : new int[] {-1, 2, FAR, Integer.MIN_VALUE}) {
            check.throwing("side " + side, IllegalArgumentException.class, () -> x.clash(0, side));
            check.throwing("side " + side + " of none", IllegalArgumentException.class, () -> x.clash(1, side));
        }
        check.throwing("i -1", IllegalArgumentException.class, () -> x.clash(-1, 0));
    }

    private void atUpward() {
        check.sentence(19, "The i-th unit (upward) at a place");
        PlaceRules x = withOwnRules(40);
        for (int unit = 39; unit >= 0; unit--) {
            x.put(unit, unit % 2 * 11, 0);
        }
        for (int i = 0; i < 20; i++) {
            check.due("at(0, " + i + ")", 2 * i, x.at(0, i));
            check.due("at(11, " + i + ")", 2 * i + 1, x.at(11, i));
        }
        check.due("at(0, 20)", -1, x.at(0, 20));
        check.due("at(11, 20)", -1, x.at(11, 20));
        x.put(39, 0, 0);
        check.due("the last one that came is the last by number", 39, x.at(0, 20));
        x.take(0);
        check.due("the first is gone", 2, x.at(0, 0));
    }

    private void atNotSoMany() {
        check.sentence(19, "-1 if there are not so many");
        PlaceRules x = withOwnRules(1);
        for (int place = 0; place <= 11; place++) {
            check.due("an empty place " + place, -1, x.at(place, 0));
            x.put(0, place, 0);
            check.due("one unit at " + place, 0, x.at(place, 0));
            check.due("no second at " + place, -1, x.at(place, 1));
            check.due("far behind at " + place, -1, x.at(place, FAR));
        }
    }

    private void countEach() {
        check.sentence(20, "0 rules, 1 units, 2 exceptions, 3 clashes, 4 signs collected, 5 how often an own ..");
        PlaceRules x = new PlaceRules();
        counted(x, 0, 0, 0, 0, 0, 0);
        x.rule(1, Kinds.OWN, 0, 0);
        counted(x, 1, 0, 0, 0, 0, 0);
        x.unit(0, 0, 0);
        counted(x, 1, 1, 0, 0, 0, 0);
        x.except(0, 0, 0, 0);
        counted(x, 1, 1, 1, 0, 0, 0);
        x.rule(1, Kinds.OWN, 0, 0);
        counted(x, 2, 1, 1, 1, 0, 0);
        x.sign('1');
        counted(x, 2, 1, 1, 1, 1, 0);
        x.own(0, 3);
        counted(x, 2, 1, 1, 1, 1, 0);
        x.may(0, 0, 1);
        counted(x, 2, 1, 1, 1, 1, 2);
        x.read();
        counted(x, 2, 1, 1, 1, 0, 2);
    }

    private void counted(PlaceRules x, int... due) {
        for (int what = 0; what < due.length; what++) {
            check.due("count(" + what + ")", due[what], x.count(what));
        }
    }

    private void countOfAnother() {
        check.sentence(20, "-1 for another what");
        PlaceRules x = withOwnRules(3);
        for (int what : new int[] {-1, 6, 7, 256, -256, FAR, Integer.MIN_VALUE}) {
            check.due("count(" + what + ")", -1, x.count(what));
        }
    }

    private void fiveHundredAndTwelveCalls() {
        check.sentence(20, "An object is used for at most 512 calls after it has been made");
        PlaceRules x = new PlaceRules();
        x.own(0, 3);
        x.unit(0, 0, 0);
        for (int i = 0; i < 24; i++) {
            x.rule(1, Kinds.OWN, 0, 0);
        }
        for (int i = 0; i < 484; i++) {
            check.due("may, number " + i, 1, x.may(0, i % 12, i % 1001));
        }
        check.due("511 calls", 24 * 484, x.count(5));
        check.due("512 calls", 23, x.explain(23));
    }
}
