import java.util.Random;

/** Long runs of calls on the class and on the model, which must answer alike. */
public final class ModelTest {
    private static final int RUNS = 3000;
    private static final int STEPS = 512;
    private static final int[] FAR = {Integer.MIN_VALUE, -1000000, -2, -1, 0, 1, 40, 1001, 10000, 10000001,
        Integer.MAX_VALUE};
    private static final String[] NAMES =
        {"size", "weight", "goods", "lots", "owners", "hazard", "zone", "units", "dates", "days", "own"};
    private static final String STRAY = "0123456789 \nabdehinorswz\u00ff";

    private final Check check;
    private final Random random;
    // Every second run has few places, goods and ranks, so that units meet and rules clash often.
    private final boolean few;
    private final PlaceRules x = new PlaceRules();
    private final Model model = new Model();

    private ModelTest(Check check, long seed) {
        this.check = check;
        random = new Random(seed);
        few = seed % 2 == 0;
    }

    public static void main(String[] args) {
        Check check = new Check();
        for (int run = 0; run < RUNS; run++) {
            check.part("run " + run);
            new ModelTest(check, run).go();
        }
        check.end();
    }

    private void go() {
        int calls = 0;
        while (calls < STEPS) {
            if (random.nextInt(12) > 0) {
                oneCall();
                calls++;
                continue;
            }
            String text = text();
            if (calls + text.length() < STEPS) {
                for (char c : text.toCharArray()) {
                    compare("sign", c + 256 * (random.nextInt(3) - 1));
                }
                compare("read of " + text.replace("\n", "\\n"));
            }
            calls += text.length() + 1;
        }
    }

    private void oneCall() {
        switch (random.nextInt(26)) {
            case 0: compare("place", some(0, 11), some(50, 400), some(50, 400), some(50, 400)); break;
            case 1: compare("limit", some(0, 11), some(0, 200000), some(0, 7)); break;
            case 2: case 3: compare("unit", few ? some(0, 2) : some(0, 99), few ? some(0, 2) : some(0, 99),
                some(0, 7)); break;
            case 4: compare("size", unit(), some(1, 400), some(1, 400), some(1, 400), some(1, 60000)); break;
            case 5: compare("nature", unit(), some(0, 7), some(0, 7), some(0, 1000)); break;
            case 6: rule(); break;
            case 7: compare("own", some(0, 3), some(0, 3)); break;
            case 8: compare("except", some(0, 24), some(-1, 11), some(-1, 7), some(0, 1000)); break;
            case 9: case 10: case 11: compare("may", unit(), place(), some(0, 1000)); break;
            case 12: case 13: case 14: compare("explain", some(0, 4)); break;
            case 15: case 16: case 17: case 18: case 19: compare("put", unit(), place(), some(0, 1000)); break;
            case 20: compare("take", unit()); break;
            case 21: compare("turned", unit(), some(0, 11)); break;
            case 22: compare("never", some(0, 12)); break;
            case 23: compare("clash", some(0, 8), some(0, 1)); break;
            case 24: compare("at", place(), some(0, 5)); break;
            default: compare("count", some(-1, 6)); break;
        }
    }

    private void rule() {
        int kind = some(0, 10);
        int a = kind == 1 ? some(0, 100000) : kind >= 8 && kind <= 9 ? some(0, 1000) : some(0, 7);
        compare("rule", few ? some(1, 3) : some(1, 100), kind, a, kind == 5 || kind == 6 ? some(0, 7) : 0);
    }

    private int unit() {
        return some(0, Math.max(0, model.count(1) - 1));
    }

    private int place() {
        return few ? some(0, 2) : some(0, 11);
    }

    private int some(int least, int most) {
        int dice = random.nextInt(60);
        if (dice == 0) {
            return FAR[random.nextInt(FAR.length)];
        }
        if (dice == 1) {
            return least - 1;
        }
        if (dice == 2) {
            return most + 1;
        }
        return dice < 6 ? most : least + random.nextInt(most - least + 1);
    }

    /** Lines that are right for the most part, then sometimes spoilt in one sign. */
    private String text() {
        StringBuilder text = new StringBuilder();
        int lines = 1 + random.nextInt(few ? 2 : 4);
        for (int i = 0; i < lines; i++) {
            int kind = random.nextInt(11);
            text.append(number(100)).append(' ').append(NAMES[kind]).append(' ').append(number(kind == 1 ? 100000 : 3));
            if (kind == 5 || kind == 6) {
                text.append(' ').append(number(7));
            }
            if (i + 1 < lines || random.nextBoolean()) {
                text.append('\n');
            }
        }
        int at = random.nextInt(text.length());
        char stray = STRAY.charAt(random.nextInt(STRAY.length()));
        switch (random.nextInt(8)) {
            case 0: text.setCharAt(at, stray); break;
            case 1: text.insert(at, stray); break;
            case 2: text.deleteCharAt(at); break;
            case 3: text.setLength(at); break;
            default: break;
        }
        return text.toString();
    }

    private String number(int most) {
        switch (random.nextInt(30)) {
            case 0: return "0";
            case 1: return "0" + random.nextInt(100);
            case 2: return "" + random.nextInt(Integer.MAX_VALUE);
            case 3: return "100000" + random.nextInt(10);
            case 4: return "" + (most + 1);
            default: return "" + (1 + random.nextInt(most));
        }
    }

    private void compare(String call, int... n) {
        String got = answer(() -> onClass(call, n));
        String want = answer(() -> onModel(call, n));
        check.that(call + java.util.Arrays.toString(n) + " answered " + got + ", the model " + want, got.equals(want));
    }

    private static String answer(Check.Call call) {
        try {
            return "" + call.answer();
        } catch (RuntimeException e) {
            return e.getClass().getName();
        }
    }

    private long onClass(String call, int[] n) {
        switch (call) {
            case "place": x.place(n[0], n[1], n[2], n[3]); return 0;
            case "limit": x.limit(n[0], n[1], n[2]); return 0;
            case "unit": return x.unit(n[0], n[1], n[2]);
            case "size": x.size(n[0], n[1], n[2], n[3], n[4]); return 0;
            case "nature": x.nature(n[0], n[1], n[2], n[3]); return 0;
            case "rule": return x.rule(n[0], n[1], n[2], n[3]);
            case "sign": return x.sign(n[0]);
            case "own": x.own(n[0], n[1]); return 0;
            case "except": x.except(n[0], n[1], n[2], n[3]); return 0;
            case "may": return x.may(n[0], n[1], n[2]);
            case "explain": return x.explain(n[0]);
            case "put": return x.put(n[0], n[1], n[2]);
            case "take": x.take(n[0]); return 0;
            case "turned": return x.turned(n[0], n[1]);
            case "never": return x.never(n[0]);
            case "clash": return x.clash(n[0], n[1]);
            case "at": return x.at(n[0], n[1]);
            case "count": return x.count(n[0]);
            default: return x.read();
        }
    }

    private long onModel(String call, int[] n) {
        switch (call) {
            case "place": return model.place(n[0], n[1], n[2], n[3]);
            case "limit": return model.limit(n[0], n[1], n[2]);
            case "unit": return model.unit(n[0], n[1], n[2]);
            case "size": return model.size(n[0], n[1], n[2], n[3], n[4]);
            case "nature": return model.nature(n[0], n[1], n[2], n[3]);
            case "rule": return model.rule(n[0], n[1], n[2], n[3]);
            case "sign": return model.sign(n[0]);
            case "own": return model.own(n[0], n[1]);
            case "except": return model.except(n[0], n[1], n[2], n[3]);
            case "may": return model.may(n[0], n[1], n[2]);
            case "explain": return model.explain(n[0]);
            case "put": return model.put(n[0], n[1], n[2]);
            case "take": return model.take(n[0]);
            case "turned": return model.turned(n[0], n[1]);
            case "never": return model.never(n[0]);
            case "clash": return model.clash(n[0], n[1]);
            case "at": return model.at(n[0], n[1]);
            case "count": return model.count(n[0]);
            default: return model.read();
        }
    }
}
