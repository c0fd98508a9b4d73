import java.util.Locale;
import java.util.NoSuchElementException;

/** Boundary cases of signs and of text (promises 8 and 9 with 'TEXT'). */
public final class BoundaryTextTest {
    private static final int MOST_SIGNS = 400;

    private final Check check = new Check();

    public static void main(String[] args) {
        BoundaryTextTest test = new BoundaryTextTest();
        test.fourHundredSigns();
        test.signsThatAreTooMany();
        test.lowByte();
        test.everyByteAsASign();
        test.nothingCollected();
        test.nothingIsCollectedThen();
        test.linesAndLineFeeds();
        test.everyKind();
        test.namesAsAbove();
        test.numbersAsMany();
        test.digitsOfNumbers();
        test.noZeroBeforeOthers();
        test.numbersOutOfRange();
        test.firstSignThatIsWrong();
        test.endsTooEarly();
        test.signsOfALongerTextBefore();
        test.noRoom();
        test.noRoomWhateverStandsInIt();
        test.inTheirOrder();
        test.noRuleCame();
        test.clashesOfLines();
        test.check.end();
    }

    private static void collect(PlaceRules x, String text) {
        for (char c : text.toCharArray()) {
            x.sign(c);
        }
    }

    private static int read(PlaceRules x, String text) {
        collect(x, text);
        return x.read();
    }

    private static String shown(String text) {
        return "'" + text.replace("\n", "\\n") + "'";
    }

    private static String lines(int howMany, String line) {
        return (line + "\n").repeat(howMany);
    }

    /** A text of which all rules come. */
    private void right(int rules, String text) {
        PlaceRules x = new PlaceRules();
        check.due("read of " + shown(text), rules, read(x, text));
        check.due("rules of " + shown(text), rules, x.count(0));
        check.due("signs after " + shown(text), 0, x.count(4));
    }

    /** A text of which no rule comes. */
    private void wrongAt(int sign, String text) {
        PlaceRules x = new PlaceRules();
        check.due("read of " + shown(text), -1 - sign, read(x, text));
        check.due("rules of " + shown(text), 0, x.count(0));
        check.due("signs after " + shown(text), 0, x.count(4));
    }

    private void fourHundredSigns() {
        check.sentence(8, "how many are there; -1 if there are 400");
        PlaceRules x = new PlaceRules();
        for (int i = 1; i <= MOST_SIGNS; i++) {
            check.due("sign number " + i, i, x.sign('7'));
            check.that("count(4) after sign number " + i, i % 50 != 0 || x.count(4) == i);
        }
        check.due("sign number 401", -1, x.sign('7'));
        check.due("sign number 402", -1, x.sign('\n'));
        check.due("there are 400", MOST_SIGNS, x.count(4));
        check.due("no rule came", 0, x.count(0));
        x.read();
        check.due("the first sign of the next text", 1, x.sign('7'));
    }

    private void signsThatAreTooMany() {
        check.sentence(8, "Signs are collected, at most 400.");
        String full = lines(23, "100 weight 99999") + "1 own 0";
        check.due("its length", 398, full.length());
        PlaceRules x = new PlaceRules();
        collect(x, full);
        check.due("399", 399, x.sign('\n'));
        check.due("400", MOST_SIGNS, x.sign('x'));
        check.due("401", -1, x.sign('y'));
        check.due("the sign that is too many is not there, the last one is", -1 - 399, x.read());
        PlaceRules y = new PlaceRules();
        collect(y, lines(23, "100 weight 99999") + "10 own 00");
        check.due("there are 400", -1, y.sign('\n'));
        check.due("the last sign is wrong", -1 - 399, y.read());
        PlaceRules z = new PlaceRules();
        collect(z, lines(23, "100 weight 99999") + "100 own 0");
        check.due("no 401st", -1, z.sign('x'));
        check.due("400 signs are read", 24, z.read());
        check.due("all rules came", 24, z.count(0));
    }

    private void lowByte() {
        check.sentence(8, "Collects a sign (its low byte)");
        int[] above = {0, 256, 512, -256, 65536, 0x7FFFFF00, Integer.MIN_VALUE};
        for (int bits : above) {
            PlaceRules x = new PlaceRules();
            for (char c : "10 own 3\n".toCharArray()) {
                x.sign(c + bits);
            }
            check.due("with " + bits + " above the low byte", 1, x.read());
        }
        int[] wrong = {-1, 255, 256, Integer.MAX_VALUE, Integer.MIN_VALUE, '1' + 128, '1' - 128};
        for (int c : wrong) {
            PlaceRules x = new PlaceRules();
            check.due("sign " + c + " is collected", 1, x.sign(c));
            check.due("sign " + c + " is no digit", -1, x.read());
        }
    }

    private void everyByteAsASign() {
        check.sentence(9, "the first sign that is wrong");
        for (int c = 0; c <= 255; c++) {
            PlaceRules x = new PlaceRules();
            x.sign(c);
            boolean digit = c >= '1' && c <= '9';
            check.due("sign " + c + " alone", digit ? -2 : -1, x.read());
            collect(x, "1");
            x.sign(c);
            boolean second = c == ' ' || c == '0';
            // 11 to 19 are ranks, too; so both digits stand, and the text ends too early.
            check.due("sign " + c + " behind a 1", second || digit ? -3 : -2, x.read());
            collect(x, "1 own 1");
            x.sign(c);
            int due = c == '\n' ? 1 : c >= '0' && c <= '9' ? -7 : -8;
            check.due("sign " + c + " behind a line", due, x.read());
        }
    }

    private void nothingCollected() {
        check.sentence(9, "0 if nothing was collected");
        PlaceRules x = new PlaceRules();
        check.due("at first", 0, x.read());
        check.due("again", 0, x.read());
        check.due("a line", 1, read(x, "1 own 0"));
        check.due("nothing after it", 0, x.read());
        check.due("a wrong line", -1, read(x, "x"));
        check.due("nothing after that", 0, x.read());
        for (int i = 1; i < 24; i++) {
            x.rule(1, Kinds.OWN, 0, 0);
        }
        check.due("nothing, with all rules there", 0, x.read());
    }

    private void nothingIsCollectedThen() {
        check.sentence(9, "Reads what was collected (nothing is collected then)");
        PlaceRules x = new PlaceRules();
        collect(x, "1 own 0");
        check.due("seven signs", 7, x.count(4));
        x.read();
        check.due("none after a right text", 0, x.count(4));
        check.due("the next is the first", 1, x.sign('1'));
        check.due("what was read is no part of it", -2, x.read());
        check.due("none after a wrong text", 0, x.count(4));
        check.due("a text after it", 1, read(x, "2 own 0"));
        check.due("a shorter text ends where it ends", -1 - 5, read(x, "3 own"));
        check.due("two rules", 2, x.count(0));
    }

    private void linesAndLineFeeds() {
        check.sentence(9, "lines with LF between them (one may be behind the last one)");
        right(1, "1 own 0");
        right(1, "1 own 0\n");
        right(2, "1 own 0\n2 own 0");
        right(2, "1 own 0\n2 own 0\n");
        wrongAt(8, "1 own 0\n\n");
        wrongAt(8, "1 own 0\n\n2 own 0");
        wrongAt(16, "1 own 0\n2 own 0\n\n");
        wrongAt(0, "\n");
        wrongAt(0, "\n1 own 0");
        wrongAt(7, "1 own 0 2 own 0");
        wrongAt(7, "1 own 0\r\n");
        wrongAt(7, "1 own 0 \n");
        wrongAt(8, "1 own 0\n 2 own 0");
        right(24, lines(24, "1 own 0"));
        right(24, lines(23, "1 own 0") + "1 own 0");
    }

    private void everyKind() {
        check.sentence(9, "each: the rank, a blank, the kind's name as above .., and a blank and a number for each");
        for (int kind = 0; kind < Kinds.HOW_MANY; kind++) {
            for (int a : new int[] {Kinds.LEAST[kind], Kinds.MOST[kind]}) {
                int b = Kinds.mostSecond(kind);
                PlaceRules read = new PlaceRules();
                PlaceRules told = new PlaceRules();
                String line = "100 " + Kinds.NAMES[kind] + " " + a + (Kinds.hasTwoNumbers(kind) ? " " + b : "");
                check.due("read of " + line, 1, read(read, line));
                told.rule(100, kind, a, b);
                sameRules(line, read, told);
            }
        }
    }

    /** Whether two objects have the same rule, seen by what it refuses. */
    private void sameRules(String line, PlaceRules x, PlaceRules y) {
        for (PlaceRules z : new PlaceRules[] {x, y}) {
            z.unit(1, 1, 1);
            z.unit(2, 1, 2);
            z.unit(2, 2, 3);
            z.size(0, 100, 200, 10, 50000);
            z.nature(0, 7, 7, 500);
            z.nature(1, 0, 0, 0);
            z.place(0, 9999, 10, 200);
            z.limit(0, 100000, 7);
            z.own(3, 1);
            z.put(2, 2, 0);
        }
        for (int n = 0; n < 3 * 4 * 3; n++) {
            int unit = n % 3;
            int place = n / 3 % 4;
            int day = n / 12 * 500;
            check.due(line + ", may(" + unit + ", " + place + ", " + day + ")", y.may(unit, place, day),
                x.may(unit, place, day));
            if (unit == 1 && place == 2) {
                check.due(line + ", put(1, 3, " + day + ")", put(y, day), put(x, day));
            }
        }
        check.due(line + ", never(0)", y.never(0), x.never(0));
        y.rule(100, Kinds.OWN, 0, 0);
        x.rule(100, Kinds.OWN, 0, 0);
        check.due(line + ", count(3)", y.count(3), x.count(3));
    }

    private static int put(PlaceRules x, int day) {
        return x.at(3, 0) == 1 ? -1 : x.put(1, 3, day);
    }

    private void namesAsAbove() {
        check.sentence(9, "the kind's name as above (lower letters)");
        for (String name : Kinds.NAMES) {
            wrongAt(2, "1 " + name.toUpperCase(Locale.ROOT) + " 1 1");
            String behindFirst = name.substring(0, 1) + name.substring(1).toUpperCase(Locale.ROOT);
            wrongAt(3, "1 " + behindFirst + " 1 1");
            wrongAt(2 + name.length(), "1 " + name + "x 1 1");
            wrongAt(2 + name.length(), "1 " + name + "1");
            wrongAt(2 + name.length(), "1 " + name + "\n");
            wrongAt(3 + name.length(), "1 " + name + "  1");
        }
        wrongAt(2, "1 x 1");
        wrongAt(2, "1  own 1");
        wrongAt(2, "1 0 1");
        wrongAt(2, "1 \n");
        // One name begins another, and names begin alike.
        right(2, "1 own 1\n1 owners 1");
        right(2, "1 owners 1\n1 own 1");
        wrongAt(5, "1 ownx");
        wrongAt(6, "1 owne 1");
        wrongAt(7, "1 owner 1");
        wrongAt(8, "1 ownersx 1");
        right(2, "1 dates 1\n1 days 1");
        wrongAt(4, "1 da 1");
        wrongAt(5, "1 dat 1");
        wrongAt(5, "1 day 1");
        wrongAt(3, "1 sz 1");
        wrongAt(6, "1 sizes 1");
        wrongAt(6, "1 zonea 1 1");
        wrongAt(2, "1 \u00ff");
    }

    private void numbersAsMany() {
        check.sentence(9, "a number for each number that it has (hazard and zone two, others one)");
        for (int kind = 0; kind < Kinds.HOW_MANY; kind++) {
            String one = "1 " + Kinds.NAMES[kind] + " 1";
            String two = one + " 1";
            String three = two + " 1";
            if (Kinds.hasTwoNumbers(kind)) {
                wrongAt(one.length(), one);
                wrongAt(one.length(), one + "\n");
                right(1, two);
                wrongAt(two.length(), three);
            } else {
                right(1, one);
                wrongAt(one.length(), two);
                wrongAt(one.length(), one + " ");
            }
        }
    }

    private void digitsOfNumbers() {
        check.sentence(9, "Numbers have 1 to 6 digits");
        right(1, "1 weight 1");
        right(1, "1 weight 12");
        right(1, "1 weight 12345");
        right(1, "1 weight 100000");
        wrongAt(15, "1 weight 1000000");
        wrongAt(15, "1 weight 1000001");
        wrongAt(15, "1 weight 10000000000000000000000");
        wrongAt(6, "1000000 own 0");
        wrongAt(6, "9999999999999 own 0");
        // 2 to the power of 32, and one more: wrapped around they would be 0 and 1.
        wrongAt(12, "1 own 4294967296");
        wrongAt(12, "1 own 4294967297");
        wrongAt(6, "4294967297 own 0");
        wrongAt(9, "1 weight ");
        wrongAt(9, "1 weight x");
        wrongAt(9, "1 weight -1");
        wrongAt(9, "1 weight +1");
        wrongAt(0, "-1 own 0");
        wrongAt(0, "+1 own 0");
    }

    private void noZeroBeforeOthers() {
        check.sentence(9, "and no 0 before others");
        right(1, "1 own 0");
        right(1, "1 weight 0");
        right(1, "1 hazard 0 0");
        right(1, "10 own 0");
        right(1, "100 weight 10000");
        wrongAt(7, "1 own 00");
        wrongAt(7, "1 own 01");
        wrongAt(10, "1 weight 0100");
        wrongAt(10, "1 weight 000000");
        wrongAt(10, "1 weight 0000000");
        wrongAt(10, "1 hazard 01 1");
        wrongAt(12, "1 hazard 1 01");
        wrongAt(9, "1 goods 01");
        wrongAt(1, "01 own 0");
        wrongAt(1, "00 own 0");
        wrongAt(1, "0100 own 0");
    }

    private void numbersOutOfRange() {
        check.sentence(9, "of a number that is out of range its first one");
        wrongAt(0, "0 own 0");
        wrongAt(0, "0");
        wrongAt(0, "101 own 0");
        wrongAt(0, "101");
        wrongAt(0, "110 own 0");
        wrongAt(0, "999999 own 0");
        right(2, "1 own 0\n100 own 0");
        for (int kind = 0; kind < Kinds.HOW_MANY; kind++) {
            String start = "1 " + Kinds.NAMES[kind] + " ";
            String end = Kinds.hasTwoNumbers(kind) ? " 0" : "";
            int at = start.length();
            wrongAt(at, start + (Kinds.MOST[kind] + 1) + end);
            wrongAt(at, start + (Kinds.MOST[kind] + 1));
            wrongAt(at, start + "999999" + end);
            wrongAt(at, start + (Kinds.MOST[kind] + 1) + end + "\n1 own 0");
            right(2, start + Kinds.MOST[kind] + end + "\n" + start + Kinds.LEAST[kind] + end + "\n");
            if (Kinds.LEAST[kind] > 0) {
                wrongAt(at, start + "0" + end);
            }
            if (Kinds.hasTwoNumbers(kind)) {
                wrongAt(at + 2, start + "0 8");
                wrongAt(at + 2, start + "7 10");
                wrongAt(at, start + "8 8");
                right(1, start + "0 7");
            }
        }
        wrongAt(14, "1 own 0\n2 own 4\n3 own 4");
        wrongAt(8, "1 own 0\n0 own 4");
    }

    private void firstSignThatIsWrong() {
        check.sentence(9, "or -1 less the first sign that is wrong");
        wrongAt(0, "x");
        wrongAt(0, " ");
        wrongAt(1, "1x");
        wrongAt(1, "1\n");
        wrongAt(1, "1\town 0");
        wrongAt(6, "1 own x");
        wrongAt(6, "1 own \n");
        wrongAt(7, "1 own 0x");
        wrongAt(7, "1 own 0\u008a");
        wrongAt(0, "101 xyz");
        wrongAt(2, "1 xyz 9x");
        wrongAt(6, "1 own 9x");
        wrongAt(8, "1 own 0\nx\ny");
        wrongAt(15, "1 own 0\n1 own 0x");
        // The last sign of 400.
        String start = lines(23, "100 weight 99999");
        wrongAt(399, start + "10 own 0x");
    }

    private void endsTooEarly() {
        check.sentence(9, "the number of signs, if it ends too early");
        for (String line : new String[] {"100 weight 1", "1 zone 1 2", "7 owners 3", "1 own 0\n20 hazard 7 7"}) {
            int lastRight = line.startsWith("1 own") ? 8 : 0;
            for (int n = lastRight + 1; n < line.length(); n++) {
                wrongAt(n, line.substring(0, n));
            }
            right(lastRight == 0 ? 1 : 2, line);
        }
        wrongAt(9, "1 own 0\n1");
        wrongAt(MOST_SIGNS, lines(23, "100 weight 99999") + "10 owners");
        wrongAt(MOST_SIGNS, lines(23, "100 weight 99999") + "100 owner");
        wrongAt(MOST_SIGNS, lines(23, "100 weight 99999") + "1 weight ");
    }

    private void signsOfALongerTextBefore() {
        check.sentence(9, "Reads what was collected (nothing is collected then)");
        for (String line : new String[] {"100 weight 12", "1 hazard 1 2", "7 owners 3\n"}) {
            for (int n = 1; n < line.length() - 1; n++) {
                PlaceRules x = new PlaceRules();
                check.due("read of " + shown(line), 1, read(x, line));
                String begun = line.substring(0, n);
                boolean whole = begun.matches("\\d+ (weight \\d+|hazard \\d \\d|owners \\d)");
                check.due("read of " + shown(begun) + " behind it", whole ? 1 : -1 - n, read(x, begun));
                check.due("rules", whole ? 2 : 1, x.count(0));
            }
        }
    }

    private void noRoom() {
        check.sentence(9, "the first sign of the line for whose rule there is no room");
        for (int there = 0; there <= 24; there++) {
            PlaceRules x = new PlaceRules();
            for (int i = 0; i < there; i++) {
                x.rule(1, Kinds.OWN, 0, 0);
            }
            int room = 24 - there;
            check.due("one line more than room, of " + room, -1 - 8 * room, read(x, lines(room + 1, "1 own 0")));
            check.due("no rule came", there, x.count(0));
            check.due("as many as room, of " + room, room, read(x, lines(room, "2 own 0")));
            check.due("all came", 24, x.count(0));
        }
    }

    private void noRoomWhateverStandsInIt() {
        check.sentence(9, "for whose rule there is no room, whatever stands in it");
        for (String more : new String[] {"1 own 0", "1 own 9", "x", "\n", "1", "1 own", " ", "\u00ff", "\n\n", "0"}) {
            PlaceRules x = new PlaceRules();
            for (int i = 0; i < 22; i++) {
                x.rule(1, Kinds.OWN, 0, 0);
            }
            check.due("two lines and " + shown(more), -1 - 16, read(x, lines(2, "1 own 0") + more));
            check.due("no rule came", 22, x.count(0));
            check.due("a wrong line before it and " + shown(more), -1 - 14, read(x, "1 own 0\n1 own 4\n" + more));
            check.due("a wrong sign before it and " + shown(more), -1 - 15, read(x, "1 own 0\n1 own 1x\n" + more));
            check.due("two lines", 2, read(x, lines(2, "1 own 0")));
            check.due("no room at all for " + shown(more), -1, read(x, more));
            check.due("twenty-four rules", 24, x.count(0));
            check.due("nothing is collected then", 0, x.count(4));
        }
    }

    private void inTheirOrder() {
        check.sentence(9, "how many rules came, in their order");
        PlaceRules x = new PlaceRules();
        x.unit(0, 0, 0);
        for (int k = 0; k <= 3; k++) {
            x.own(k, 1);
        }
        x.rule(3, Kinds.SIZE, 0, 0);
        check.due("four lines", 4, read(x, "4 own 0\n3 own 1\n2 own 2\n1 own 3\n"));
        check.due("the last line has the greatest number", 5, x.may(0, 0, 0));
        int[] order = {4, 3, 2, 1, -1};
        for (int i = 0; i < order.length; i++) {
            check.due("explain(" + i + ")", order[i], x.explain(i));
        }
        check.due("the next rule's number", 5, x.rule(9, Kinds.SIZE, 0, 0));
    }

    private void noRuleCame() {
        check.sentence(9, "and no rule came");
        PlaceRules x = new PlaceRules();
        x.unit(0, 0, 0);
        x.own(0, 1);
        x.rule(1, Kinds.OWN, 1, 0);
        check.due("the second line is wrong", -1 - 14, read(x, "1 own 0\n1 own 4"));
        check.due("one rule as before", 1, x.count(0));
        check.due("no clash", 0, x.count(3));
        check.due("no second rule that never refused", -1, x.never(1));
        check.due("nothing refuses", 0, x.may(0, 0, 0));
        check.throwing("no exception for it", NoSuchElementException.class, () -> x.except(1, 0, 0, 0));
        check.due("the next rule's number", 1, x.rule(1, Kinds.GOODS, 1, 0));
        check.due("it is of its own kind", 0, x.may(0, 0, 0));
    }

    private void clashesOfLines() {
        check.sentence(9, "A CLASH is two rules of equal rank and kind, told when the later one comes");
        PlaceRules x = new PlaceRules();
        x.rule(3, Kinds.OWN, 0, 0);
        read(x, "3 own 1\n4 own 1\n3 zone 1 1\n3 own 0\n");
        int[][] clashes = {{0, 1}, {0, 4}, {1, 4}, {-1, -1}};
        for (int i = 0; i < clashes.length; i++) {
            check.due("clash(" + i + ", 0)", clashes[i][0], x.clash(i, 0));
            check.due("clash(" + i + ", 1)", clashes[i][1], x.clash(i, 1));
        }
    }
}
