import java.util.ArrayList;
import java.util.List;

/**
 * Two objects with the same calls behind them, to one of which one call more was made that was refused: from then
 * on both must answer alike, whatever is asked.
 */
final class Twins {
    interface Steps {
        void on(PlaceRules x);
    }

    private interface Probe {
        void ask(PlaceRules x, List<String> answers);
    }

    // Some forty to hundred calls are behind each object; each probe leaves it below 512.
    private static final Probe[] PROBES = {Twins::whatIsTold, Twins::whatFits, Twins::whatMayStand, Twins::whatMayWhen,
        Twins::whatComes, Twins::whatMoves};

    private final Check check;
    private final Steps before;

    Twins(Check check, Steps before) {
        this.check = check;
        this.before = before;
    }

    void refused(String call, Class<? extends RuntimeException> due, Steps last) {
        for (Probe probe : PROBES) {
            PlaceRules tried = made();
            check.throwing(call, due, () -> last.on(tried));
            alike(call, probe, tried);
        }
    }

    /** A call that the document answers, but that must change nothing either. */
    void unchanged(String call, long due, Check.Asked last) {
        for (Probe probe : PROBES) {
            PlaceRules tried = made();
            check.due(call, due, last.answer(tried));
            alike(call, probe, tried);
        }
    }

    private void alike(String call, Probe probe, PlaceRules tried) {
        List<String> want = new ArrayList<>();
        List<String> got = new ArrayList<>();
        probe.ask(made(), want);
        probe.ask(tried, got);
        check.that(call + " was refused and changed answers: " + firstOther(want, got), want.equals(got));
    }

    private PlaceRules made() {
        PlaceRules x = new PlaceRules();
        before.on(x);
        return x;
    }

    private static String firstOther(List<String> want, List<String> got) {
        for (int i = 0; i < want.size() && i < got.size(); i++) {
            if (!want.get(i).equals(got.get(i))) {
                return got.get(i) + ", due is " + want.get(i);
            }
        }
        return "none";
    }

    private static void note(List<String> answers, String call, PlaceRules x, Check.Asked asked) {
        String answer;
        try {
            answer = "" + asked.answer(x);
        } catch (RuntimeException e) {
            answer = e.getClass().getSimpleName();
        }
        answers.add(call + " = " + answer);
    }

    private static void whatIsTold(PlaceRules x, List<String> answers) {
        for (int n = 0; n <= 5; n++) {
            int i = n;
            note(answers, "count " + n, x, y -> y.count(i));
        }
        for (int n = 0; n <= 24; n++) {
            int i = n;
            note(answers, "explain " + n, x, y -> y.explain(i));
            note(answers, "never " + n, x, y -> y.never(i));
            note(answers, "clash " + n + " 0", x, y -> y.clash(i, 0));
            note(answers, "clash " + n + " 1", x, y -> y.clash(i, 1));
        }
        for (int n = 0; n < 12 * 6; n++) {
            int i = n;
            note(answers, "at " + n / 6 + " " + n % 6, x, y -> y.at(i / 6, i % 6));
        }
    }

    private static void whatFits(PlaceRules x, List<String> answers) {
        for (int n = 0; n < 9 * 12; n++) {
            int unit = n / 12 == 8 ? x.count(1) - 1 : n / 12;
            int place = n % 12;
            note(answers, "turned " + unit + " " + place, x, y -> y.turned(unit, place));
        }
    }

    private static void whatMayStand(PlaceRules x, List<String> answers) {
        for (int n = 0; n < 6 * 8; n++) {
            int unit = n % 6;
            int place = n / 6 < 7 ? n / 6 : 11;
            note(answers, "may " + unit + " " + place, x, y -> y.may(unit, place, 100));
            for (int i = 0; i < 6; i++) {
                int nth = i;
                note(answers, "explain " + i, x, y -> y.explain(nth));
            }
        }
        note(answers, "count 5", x, y -> y.count(5));
        note(answers, "never 0", x, y -> y.never(0));
    }

    private static void whatMayWhen(PlaceRules x, List<String> answers) {
        int[] days = {0, 49, 50, 51, 500, 1000};
        for (int n = 0; n < days.length * 12; n++) {
            int unit = n % 2 * 4;
            int place = n % 12;
            int day = days[n / 12];
            note(answers, "may " + unit + " " + place + " " + day, x, y -> y.may(unit, place, day));
            note(answers, "explain 1", x, y -> y.explain(1));
            note(answers, "explain 2", x, y -> y.explain(2));
        }
    }

    private static void whatComes(PlaceRules x, List<String> answers) {
        note(answers, "sign", x, y -> y.sign('1'));
        note(answers, "read", x, y -> y.read());
        note(answers, "unit", x, y -> y.unit(5, 5, 5));
        note(answers, "may", x, y -> y.may(y.count(1) - 1, 0, 60));
        note(answers, "explain", x, y -> y.explain(1));
        for (int n = 0; n < 22; n++) {
            int i = n;
            note(answers, "except", x, y -> {
                y.except(1, i % 12, 5 + i / 12, 70);
                return y.count(2);
            });
        }
        for (int n = 0; n < 25; n++) {
            int i = n;
            note(answers, "rule", x, y -> y.rule(10 + i % 3, Kinds.OWN, i % 4, 0));
        }
        note(answers, "count 3", x, y -> y.count(3));
        note(answers, "may", x, y -> y.may(0, 0, 60));
        note(answers, "count 5", x, y -> y.count(5));
        for (int n = 0; n < 41; n++) {
            note(answers, "unit", x, y -> y.unit(5, 5, 5));
        }
    }

    private static void whatMoves(PlaceRules x, List<String> answers) {
        for (int n = 0; n < 6; n++) {
            int unit = n;
            note(answers, "take " + n, x, y -> {
                y.take(unit);
                return 0;
            });
            note(answers, "put " + n, x, y -> y.put(unit, 8, 0));
            note(answers, "size " + n, x, y -> {
                y.size(unit, 1, 1, 1, 1);
                return 0;
            });
        }
        for (int n = 0; n < 12 * 6; n++) {
            int i = n;
            note(answers, "at " + n / 6 + " " + n % 6, x, y -> y.at(i / 6, i % 6));
        }
    }
}
