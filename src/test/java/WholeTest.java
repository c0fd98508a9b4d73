import java.util.NoSuchElementException;

/** The document's first sentence, part by part, where rules told by numbers and rules told in text meet. */
public final class WholeTest {
    private static final int PLACES = 12;
    private static final int OWNERS = 8;

    private final Check check = new Check();

    public static void main(String[] args) {
        WholeTest test = new WholeTest();
        test.askedInTheirOrder();
        test.namesAndNumbersOfKinds();
        test.exceptionsByPlaceOwnerAndDay();
        test.exceptionsForRulesThatCameInText();
        test.ownRules();
        test.clashes();
        test.whichRuleNeverRefused();
        test.oneRoomForBoth();
        test.objectsByThemselves();
        test.check.end();
    }

    private void askedInTheirOrder() {
        check.part("'rules with ranks, told by numbers or in text, asked of a unit and a place in their order'");
        PlaceRules x = new PlaceRules();
        x.unit(0, 0, 0);
        x.own(1, 1);
        check.due("by number", 0, x.rule(50, Kinds.OWN, 1, 0));
        check.due("in text", 3, read(x, "50 own 1\n7 own 1\n100 own 1"));
        check.due("by number again", 4, x.rule(7, Kinds.OWN, 1, 0));
        check.due("in text again", 2, read(x, "1 own 1\n50 own 1\n"));
        check.due("the first of all", 1 + 5, x.may(0, 3, 10));
        explained(x, 5, 2, 4, 0, 1, 6, 3);
        x.rule(1, Kinds.OWN, 0, 0);
        x.rule(1, Kinds.OWN, 1, 0);
        check.due("with a rule between that says yes", 1 + 5, x.put(0, 3, 10));
        explained(x, 5, 8, 2, 4, 0, 1, 6, 3);
        check.due("it is not put", -1, x.at(3, 0));
    }

    private void namesAndNumbersOfKinds() {
        check.part("'told by numbers or in text': 0 size, 1 weight, 2 goods, .. 10 own");
        for (int kind = 0; kind < Kinds.HOW_MANY; kind++) {
            PlaceRules x = new PlaceRules();
            for (int other = 0; other < Kinds.HOW_MANY; other++) {
                x.rule(9, other, 1, 0);
            }
            String line = "9 " + Kinds.NAMES[kind] + " 1" + (Kinds.hasTwoNumbers(kind) ? " 1" : "");
            check.due("read of " + line, 1, read(x, line));
            check.due("one clash with " + line, 1, x.count(3));
            check.due("the number of " + line, kind, x.clash(0, 0));
            check.due("the rule of " + line, Kinds.HOW_MANY, x.clash(0, 1));
        }
    }

    private void exceptionsByPlaceOwnerAndDay() {
        check.part("'with exceptions by place, owner and day'");
        int[][] exceptions = {{5, 3, 40}, {5, -1, 30}, {-1, 3, 20}, {-1, -1, 10}};
        for (int many = 0; many <= exceptions.length; many++) {
            PlaceRules x = new PlaceRules();
            x.own(0, 1);
            x.rule(1, Kinds.OWN, 0, 0);
            for (int owner = 0; owner < OWNERS; owner++) {
                x.unit(0, 0, owner);
            }
            for (int i = 0; i < many; i++) {
                x.except(0, exceptions[i][0], exceptions[i][1], exceptions[i][2]);
            }
            check.due("exceptions", many, x.count(2));
            for (int day : new int[] {0, 10, 11, 20, 21, 30, 31, 40, 41, 1000}) {
                for (int n = 0; n < 4; n++) {
                    int place = n % 2 == 0 ? 5 : 6;
                    int unit = n / 2 == 0 ? 3 : 4;
                    boolean away = isAway(exceptions, many, place, unit, day);
                    check.due(many + " exceptions, may(" + unit + ", " + place + ", " + day + ")", away ? 0 : 1,
                        x.may(unit, place, day));
                }
            }
        }
    }

    private static boolean isAway(int[][] exceptions, int many, int place, int owner, int day) {
        boolean away = false;
        for (int i = 0; i < many; i++) {
            int[] e = exceptions[i];
            away |= (e[0] == place || e[0] == -1) && (e[1] == owner || e[1] == -1) && day <= e[2];
        }
        return away;
    }

    private void exceptionsForRulesThatCameInText() {
        check.part("'with exceptions by place, owner and day', of rules in text");
        PlaceRules x = new PlaceRules();
        x.unit(0, 0, 2);
        x.own(0, 1);
        check.throwing("no rule yet", NoSuchElementException.class, () -> x.except(0, 0, 2, 5));
        read(x, "2 own 0\n1 own 0");
        x.except(1, 0, 2, 5);
        check.throwing("two rules came", NoSuchElementException.class, () -> x.except(2, 0, 2, 5));
        check.throwing("of a wrong text none", NoSuchElementException.class, () -> {
            read(x, "3 own 0\nx");
            x.except(2, 0, 2, 5);
        });
        check.due("the rule of rank 2", 1, x.may(0, 0, 5));
        explained(x, 0);
        check.due("a day later", 2, x.may(0, 0, 6));
        explained(x, 1, 0);
        for (int place = 1; place < PLACES; place++) {
            check.due("at place " + place, 2, x.may(0, place, 5));
        }
    }

    private void ownRules() {
        check.part("'own rules that answer, refuse or fail'");
        PlaceRules x = new PlaceRules();
        x.unit(0, 0, 0);
        x.unit(1, 0, 0);
        x.size(0, 1, 1, 1, 500);
        x.size(1, 1, 1, 1, 501);
        read(x, "4 own 0\n3 own 1\n2 own 2\n1 own 3");
        x.put(0, 6, 0);
        for (int k = 0; k < 4; k++) {
            x.own(k, k);
        }
        check.due("501 grams beside 500", 1 + 3, x.may(1, 6, 0));
        explained(x, 3, 2, 1);
        check.due("500 grams beside none", 1 + 3, x.may(0, 6, 0));
        explained(x, 3, 2, 1);
        check.due("it failed twice", 2, x.count(5));
        x.size(1, 1, 1, 1, 500);
        check.due("500 grams beside 500", 1 + 3, x.may(1, 6, 0));
        explained(x, 3, 1);
        x.except(3, -1, -1, 1000);
        check.due("the one that fails is not asked", 1 + 1, x.put(1, 6, 0));
        check.due("it failed no more", 3, x.count(5));
    }

    private void clashes() {
        check.part("'clashes'");
        PlaceRules x = new PlaceRules();
        read(x, "8 goods 1\n8 lots 1\n8 goods 2");
        x.rule(8, Kinds.LOTS, 3, 0);
        read(x, "8 goods 1\n9 goods 1");
        int[][] due = {{0, 2}, {1, 3}, {0, 4}, {2, 4}};
        check.due("how many", due.length, x.count(3));
        for (int i = 0; i < due.length; i++) {
            check.due("clash(" + i + ", 0)", due[i][0], x.clash(i, 0));
            check.due("clash(" + i + ", 1)", due[i][1], x.clash(i, 1));
        }
        check.due("a wrong text has no clashes", -10, read(x, "9 goods 1x"));
        check.due("as many as before", due.length, x.count(3));
        check.due("none behind them", -1, x.clash(due.length, 0));
    }

    private void whichRuleNeverRefused() {
        check.part("'and which rule never refused'");
        PlaceRules x = new PlaceRules();
        x.unit(0, 0, 0);
        x.nature(0, 0, 4, 300);
        read(x, "5 zone 4 1\n4 days 100\n3 units 1");
        x.rule(2, Kinds.WEIGHT, 99001, 0);
        never(x, 0, 1, 2, 3);
        x.except(0, 2, -1, 1000);
        check.due("weight", 1 + 3, x.may(0, 2, 200));
        never(x, 0, 1, 2);
        x.limit(2, 200000, 0);
        check.due("days", 1 + 1, x.put(0, 2, 201));
        never(x, 0, 2);
        x.rule(1, Kinds.WEIGHT, 0, 0);
        never(x, 0, 2, 4);
        check.due("zone, where it is not taken away", 1 + 3, x.may(0, 3, 0));
        explained(x, 3, 0);
        never(x, 2, 4);
        check.due("nothing", 0, x.put(0, 2, 0));
        never(x, 2, 4);
    }

    private void oneRoomForBoth() {
        check.part("'told by numbers or in text': RULES, at most 24");
        PlaceRules x = new PlaceRules();
        for (int i = 0; i < 22; i++) {
            x.rule(1 + i, Kinds.OWN, 0, 0);
        }
        check.due("three lines, room for two", -1 - 18, read(x, "90 own 0\n91 own 0\n92 own 0"));
        check.due("no rule came", 22, x.count(0));
        check.due("two lines", 2, read(x, "90 own 0\n91 own 0\n"));
        check.throwing("no room by number", UnsupportedOperationException.class, () -> x.rule(1, Kinds.OWN, 0, 0));
        check.due("no room in text", -1, read(x, "1 own 0"));
        check.due("all rules", 24, x.count(0));
    }

    private void objectsByThemselves() {
        check.part("'PlaceRules(): No rules, units, exceptions', whatever another object has");
        PlaceRules x = new PlaceRules();
        PlaceRules y = new PlaceRules();
        x.own(0, 1);
        read(x, "1 own 0");
        x.unit(0, 0, 0);
        x.place(0, 1, 1, 1);
        x.sign('1');
        check.due("x refuses", 1, x.may(0, 0, 0));
        for (int what = 0; what <= 5; what++) {
            check.due("count(" + what + ") of y", 0, y.count(what));
        }
        y.unit(0, 0, 0);
        y.rule(1, Kinds.OWN, 0, 0);
        check.due("y says yes", 0, y.may(0, 0, 0));
        check.due("places of y", 0, y.turned(0, 0));
        check.due("explain(0) of x", 0, x.explain(0));
        check.due("signs of x", 1, x.count(4));
    }

    private void explained(PlaceRules x, int... due) {
        for (int i = 0; i <= due.length; i++) {
            check.due("explain(" + i + ")", i < due.length ? due[i] : -1, x.explain(i));
        }
    }

    private void never(PlaceRules x, int... due) {
        for (int i = 0; i <= due.length; i++) {
            check.due("never(" + i + ")", i < due.length ? due[i] : -1, x.never(i));
        }
    }

    private static int read(PlaceRules x, String text) {
        for (int i = 0; i < text.length(); i++) {
            x.sign(text.charAt(i));
        }
        return x.read();
    }
}
