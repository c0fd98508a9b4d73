import java.util.NoSuchElementException;

/**
 * What may stand where in a warehouse. The document that it keeps to numbers its promises;
 * README.md tells how to use it.
 */
public final class PlaceRules {
    private static final int PLACES = 12;
    private static final int MOST_UNITS = 40;
    private static final int MOST_RULES = 24;
    // Each pair of rules can clash once: 24 * 23 / 2.
    private static final int MOST_CLASHES = 276;
    private static final int MOST_EXCEPTIONS = 20;
    private static final int MOST_SIGNS = 400;
    private static final int MOST_DIGITS = 6;
    private static final int OWN_RULES = 4;

    private static final int MOST_RANK = 100;
    private static final int MOST_LENGTH = 9999;
    private static final int MOST_GRAMS = 1000000;
    private static final int MOST_LIMIT = 10000000;
    private static final int MOST_CODE = 99;
    private static final int MOST_GROUP = 7;
    private static final int MOST_DAY = 1000;

    private static final int NONE = -1;
    private static final int NOWHERE = -1;
    private static final int ALL = -1;

    private static final int SAYS_NO = 1;
    private static final int SAYS_NO_TO_HEAVIER = 2;
    private static final int FAILS = 3;

    private static final int WAYS_TO_LIE = 6;
    private static final int WAY_AS_IT_IS = 0;
    private static final int WAY_ROUND = 2;

    private static final int LINE_FEED = 10;
    private static final int BLANK = 32;

    private static final Kind[] KINDS = Kind.values();

    private final Place[] places = new Place[PLACES];
    private final Unit[] units = new Unit[MOST_UNITS];
    private int unitCount;
    private final Waiver[] waivers = new Waiver[MOST_EXCEPTIONS];
    private int waiverCount;
    private final RuleBook book = new RuleBook();
    private final OwnRules ownRules = new OwnRules();
    private final Text text = new Text();
    private final Question question = new Question();
    private final int[] refusals = new int[MOST_RULES];
    private int refusalCount;

    public PlaceRules() {
        for (int i = 0; i < PLACES; i++) {
            places[i] = new Place();
        }
        for (int i = 0; i < MOST_UNITS; i++) {
            units[i] = new Unit();
        }
        for (int i = 0; i < MOST_EXCEPTIONS; i++) {
            waivers[i] = new Waiver();
        }
    }

    public void place(int place, int width, int depth, int height) throws IllegalArgumentException {
        needPlace(place);
        needLengths(width, depth, height);
        Place changed = places[place];
        changed.width = width;
        changed.depth = depth;
        changed.height = height;
    }

    public void limit(int place, int grams, int zone) throws IllegalArgumentException {
        needPlace(place);
        needWithin(grams, 0, MOST_LIMIT);
        needWithin(zone, 0, MOST_GROUP);
        places[place].limit = grams;
        places[place].zone = zone;
    }

    public int unit(int good, int lot, int owner) throws IllegalArgumentException, UnsupportedOperationException {
        needWithin(good, 0, MOST_CODE);
        needWithin(lot, 0, MOST_CODE);
        needWithin(owner, 0, MOST_GROUP);
        if (unitCount >= MOST_UNITS) {
            throw new UnsupportedOperationException("there are forty units");
        }
        Unit made = units[unitCount];
        made.good = good;
        made.lot = lot;
        made.owner = owner;
        unitCount++;
        return unitCount - 1;
    }

    public void size(int unit, int width, int depth, int height, int grams)
            throws NoSuchElementException, IllegalArgumentException, IllegalStateException {
        needUnit(unit);
        needLengths(width, depth, height);
        needWithin(grams, 1, MOST_GRAMS);
        needNowhere(unit);
        Unit changed = units[unit];
        changed.width = width;
        changed.depth = depth;
        changed.height = height;
        changed.grams = grams;
    }

    public void nature(int unit, int hazard, int kind, int last)
            throws NoSuchElementException, IllegalArgumentException, IllegalStateException {
        needUnit(unit);
        needWithin(hazard, 0, MOST_GROUP);
        needWithin(kind, 0, MOST_GROUP);
        needWithin(last, 0, MOST_DAY);
        needNowhere(unit);
        Unit changed = units[unit];
        changed.hazard = hazard;
        changed.group = kind;
        changed.last = last;
    }

    public int rule(int rank, int kind, int a, int b) throws IllegalArgumentException, UnsupportedOperationException {
        needWithin(rank, 1, MOST_RANK);
        needWithin(kind, 0, KINDS.length - 1);
        Kind known = KINDS[kind];
        needWithin(a, known.least, known.most);
        needWithin(b, known.leastSecond(), known.mostSecond());
        if (book.room() <= 0) {
            throw new UnsupportedOperationException("there are twenty-four rules");
        }
        return book.addRule(rank, known, a, b);
    }

    public int sign(int c) {
        return text.collect(c & 0xFF);
    }

    public int read() {
        int lines = text.readLines(book.room());
        for (int i = 0; i < lines && i < MOST_RULES; i++) {
            Rule draft = text.drafts[i];
            book.addRule(draft.rank, draft.kind, draft.a, draft.b);
        }
        text.forget();
        return lines;
    }

    public void own(int k, int says) throws IllegalArgumentException {
        needWithin(k, 0, OWN_RULES - 1);
        needWithin(says, 0, FAILS);
        ownRules.says[k] = says;
    }

    public void except(int rule, int place, int owner, int until)
            throws NoSuchElementException, IllegalArgumentException, UnsupportedOperationException {
        if (rule < 0 || rule >= book.ruleCount) {
            throw new NoSuchElementException("no such rule");
        }
        needWithin(place, ALL, PLACES - 1);
        needWithin(owner, ALL, MOST_GROUP);
        needWithin(until, 0, MOST_DAY);
        int same = findWaiver(rule, place, owner);
        if (same != NONE) {
            waivers[same].until = Math.max(waivers[same].until, until);
            return;
        }
        if (waiverCount >= MOST_EXCEPTIONS) {
            throw new UnsupportedOperationException("there are twenty exceptions");
        }
        Waiver made = waivers[waiverCount];
        made.rule = rule;
        made.place = place;
        made.owner = owner;
        made.until = until;
        waiverCount++;
    }

    public int may(int unit, int place, int day) throws NoSuchElementException, IllegalArgumentException {
        needQuestion(unit, place, day);
        return ask(unit, place, day);
    }

    public int explain(int i) throws IllegalArgumentException {
        needIndex(i);
        return i < refusalCount ? refusals[i] : NONE;
    }

    public int put(int unit, int place, int day)
            throws NoSuchElementException, IllegalArgumentException, IllegalStateException {
        needQuestion(unit, place, day);
        if (units[unit].place == place) {
            throw new IllegalStateException("the unit stands there");
        }
        int answer = ask(unit, place, day);
        if (answer == 0) {
            units[unit].place = place;
        }
        return answer;
    }

    public void take(int unit) throws NoSuchElementException, IllegalStateException {
        needUnit(unit);
        if (units[unit].place == NOWHERE) {
            throw new IllegalStateException("the unit stands nowhere");
        }
        units[unit].place = NOWHERE;
    }

    public int turned(int unit, int place) throws NoSuchElementException, IllegalArgumentException {
        needUnit(unit);
        needPlace(place);
        return places[place].firstWayFor(units[unit]);
    }

    public int never(int i) throws IllegalArgumentException {
        needIndex(i);
        return book.neverRefused(i);
    }

    public int clash(int i, int side) throws IllegalArgumentException {
        needIndex(i);
        needWithin(side, 0, 1);
        if (i >= book.clashCount) {
            return NONE;
        }
        return side == 0 ? book.earlier[i] : book.later[i];
    }

    public int at(int place, int i) throws IllegalArgumentException {
        needPlace(place);
        needIndex(i);
        int before = 0;
        for (int u = 0; u < unitCount; u++) {
            if (units[u].place == place) {
                if (before == i) {
                    return u;
                }
                before++;
            }
        }
        return NONE;
    }

    public int count(int what) {
        switch (what) {
            case 0: return book.ruleCount;
            case 1: return unitCount;
            case 2: return waiverCount;
            case 3: return book.clashCount;
            case 4: return text.signCount;
            case 5: return ownRules.failures;
            default: return NONE;
        }
    }

    /** Asks all rules, since explain(), never() and count(5) tell of more than the first refusal. */
    private int ask(int unit, int place, int day) {
        gather(unit, place, day);
        int owner = units[unit].owner;
        refusalCount = 0;
        for (int i = 0; i < book.ruleCount; i++) {
            int number = book.order[i];
            Rule rule = book.rules[number];
            if (!isWaived(number, place, owner, day) && rule.refuses(question, ownRules)) {
                rule.hasRefused = true;
                refusals[refusalCount] = number;
                refusalCount++;
            }
        }
        return refusalCount == 0 ? 0 : refusals[0] + 1;
    }

    private void gather(int unit, int place, int day) {
        question.begin(units[unit], places[place], day);
        for (int u = 0; u < unitCount; u++) {
            if (u != unit && units[u].place == place) {
                question.addOther(units[u]);
            }
        }
    }

    private boolean isWaived(int rule, int place, int owner, int day) {
        for (int i = 0; i < waiverCount; i++) {
            if (waivers[i].covers(rule, place, owner, day)) {
                return true;
            }
        }
        return false;
    }

    private int findWaiver(int rule, int place, int owner) {
        for (int i = 0; i < waiverCount; i++) {
            Waiver waiver = waivers[i];
            if (waiver.rule == rule && waiver.place == place && waiver.owner == owner) {
                return i;
            }
        }
        return NONE;
    }

    private void needQuestion(int unit, int place, int day) {
        needUnit(unit);
        needPlace(place);
        needWithin(day, 0, MOST_DAY);
    }

    private void needUnit(int unit) {
        if (unit < 0 || unit >= unitCount) {
            throw new NoSuchElementException("no such unit");
        }
    }

    private void needNowhere(int unit) {
        if (units[unit].place != NOWHERE) {
            throw new IllegalStateException("the unit stands somewhere");
        }
    }

    private static void needPlace(int place) {
        needWithin(place, 0, PLACES - 1);
    }

    private static void needLengths(int width, int depth, int height) {
        needWithin(width, 1, MOST_LENGTH);
        needWithin(depth, 1, MOST_LENGTH);
        needWithin(height, 1, MOST_LENGTH);
    }

    private static void needIndex(int i) {
        if (i < 0) {
            throw new IllegalArgumentException("below 0");
        }
    }

    private static void needWithin(int number, int least, int most) {
        if (number < least || number > most) {
            throw new IllegalArgumentException("a number outside its range");
        }
    }

    /** The kinds of rules, in the order of their numbers. */
    private enum Kind {
        SIZE("size", 1, 0, 1),
        WEIGHT("weight", 1, 0, 100000),
        GOODS("goods", 1, 1, 20),
        LOTS("lots", 1, 1, 20),
        OWNERS("owners", 1, 1, 20),
        HAZARD("hazard", 2, 0, 7),
        ZONE("zone", 2, 0, 7),
        UNITS("units", 1, 1, 40),
        DATES("dates", 1, 0, 1000),
        DAYS("days", 1, 0, 1000),
        OWN("own", 1, 0, 3);

        final String word;
        final int numbers;
        final int least;
        final int most;

        Kind(String word, int numbers, int least, int most) {
            this.word = word;
            this.numbers = numbers;
            this.least = least;
            this.most = most;
        }

        boolean hasSecond() {
            return numbers == 2;
        }

        int leastSecond() {
            return hasSecond() ? least : 0;
        }

        int mostSecond() {
            return hasSecond() ? most : 0;
        }
    }

    private static final class Place {
        int width = 1000;
        int depth = 1000;
        int height = 1000;
        int limit = 100000;
        int zone;

        int firstWayFor(Unit unit) {
            for (int way = 0; way < WAYS_TO_LIE; way++) {
                if (fits(unit, way)) {
                    return way;
                }
            }
            return NONE;
        }

        boolean fits(Unit unit, int way) {
            switch (way) {
                case WAY_AS_IT_IS: return holds(unit.width, unit.depth, unit.height);
                case 1: return holds(unit.width, unit.height, unit.depth);
                case WAY_ROUND: return holds(unit.depth, unit.width, unit.height);
                case 3: return holds(unit.depth, unit.height, unit.width);
                case 4: return holds(unit.height, unit.width, unit.depth);
                case 5: return holds(unit.height, unit.depth, unit.width);
                default: return false;
            }
        }

        private boolean holds(int along, int across, int up) {
            return along <= width && across <= depth && up <= height;
        }
    }

    private static final class Unit {
        int good;
        int lot;
        int owner;
        int width = 100;
        int depth = 100;
        int height = 100;
        int grams = 1000;
        int hazard;
        // What the document calls a unit's class, a word that Java keeps for itself.
        int group;
        int last = MOST_DAY;
        int place = NOWHERE;
    }

    /** What the document calls an exception, a word that Java has for another thing. */
    private static final class Waiver {
        int rule;
        int place;
        int owner;
        int until;

        boolean covers(int askedRule, int askedPlace, int askedOwner, int day) {
            return rule == askedRule
                    && (place == ALL || place == askedPlace)
                    && (owner == ALL || owner == askedOwner)
                    && day <= until;
        }
    }

    private static final class Rule {
        int rank;
        Kind kind = Kind.SIZE;
        int a;
        int b;
        boolean hasRefused;

        boolean refuses(Question asked, OwnRules ownRules) {
            switch (kind) {
                case SIZE: return a == 0 ? !asked.fitsUpright : !asked.fitsSomehow;
                case WEIGHT: return asked.grams + asked.othersGrams > asked.limit - a;
                case GOODS: return asked.goods.howMany() > a;
                case LOTS: return asked.lots.howMany() > a;
                case OWNERS: return asked.owners.howMany() > a;
                case HAZARD: return asked.meetsHazards(a, b) || asked.meetsHazards(b, a);
                case ZONE: return asked.group == a && asked.zone != b;
                case UNITS: return asked.units > a;
                case DATES: return asked.greatestLast - asked.leastLast > a;
                case DAYS: return asked.last - asked.day < a;
                case OWN: return ownRules.refuse(a, asked);
                default: return false;
            }
        }
    }

    /** The four rules that are the user's own: what each says, and how often one failed. */
    private static final class OwnRules {
        final int[] says = new int[OWN_RULES];
        int failures;

        boolean refuse(int k, Question asked) {
            if (k < 0 || k >= OWN_RULES) {
                return false;
            }
            switch (says[k]) {
                case SAYS_NO: return true;
                case SAYS_NO_TO_HEAVIER: return asked.grams > asked.othersGrams;
                case FAILS:
                    failures++;
                    return true;
                default: return false;
            }
        }
    }

    /** A unit, a place and a day, as the numbers that rules look at: worked out once for all rules. */
    private static final class Question {
        boolean fitsUpright;
        boolean fitsSomehow;
        int day;
        int limit;
        int zone;
        int good;
        int grams;
        int hazard;
        int group;
        int last;
        int units;
        int othersGrams;
        int leastLast;
        int greatestLast;
        final NumberSet goods = new NumberSet();
        final NumberSet lots = new NumberSet();
        final NumberSet owners = new NumberSet();
        final NumberSet othersHazards = new NumberSet();

        void begin(Unit unit, Place place, int askedDay) {
            day = askedDay;
            fitsUpright = place.fits(unit, WAY_AS_IT_IS) || place.fits(unit, WAY_ROUND);
            fitsSomehow = place.firstWayFor(unit) != NONE;
            limit = place.limit;
            zone = place.zone;
            good = unit.good;
            grams = unit.grams;
            hazard = unit.hazard;
            group = unit.group;
            last = unit.last;
            units = 1;
            othersGrams = 0;
            leastLast = unit.last;
            greatestLast = unit.last;
            goods.holdOnly(unit.good);
            lots.holdOnly(unit.lot);
            owners.holdOnly(unit.owner);
            othersHazards.clear();
        }

        void addOther(Unit other) {
            units++;
            othersGrams += other.grams;
            leastLast = Math.min(leastLast, other.last);
            greatestLast = Math.max(greatestLast, other.last);
            goods.add(other.good);
            // Only lots of the unit's own good count.
            if (other.good == good) {
                lots.add(other.lot);
            }
            owners.add(other.owner);
            othersHazards.add(other.hazard);
        }

        boolean meetsHazards(int its, int another) {
            return hazard == its && othersHazards.has(another);
        }
    }

    /** Numbers 0 .. 127, each once: a bit for each, so that no question has to make objects. */
    private static final class NumberSet {
        private long low;
        private long high;

        void clear() {
            low = 0;
            high = 0;
        }

        void holdOnly(int number) {
            clear();
            add(number);
        }

        void add(int number) {
            if (number < 64) {
                low |= 1L << number;
            } else {
                high |= 1L << (number - 64);
            }
        }

        boolean has(int number) {
            long bits = number < 64 ? low >>> number : high >>> (number - 64);
            return (bits & 1) != 0;
        }

        int howMany() {
            return Long.bitCount(low) + Long.bitCount(high);
        }
    }

    /** The rules by number, the order in which they are asked, and their clashes. */
    private static final class RuleBook {
        final Rule[] rules = new Rule[MOST_RULES];
        final int[] order = new int[MOST_RULES];
        int ruleCount;
        final int[] earlier = new int[MOST_CLASHES];
        final int[] later = new int[MOST_CLASHES];
        int clashCount;

        RuleBook() {
            for (int i = 0; i < MOST_RULES; i++) {
                rules[i] = new Rule();
            }
        }

        int room() {
            return MOST_RULES - ruleCount;
        }

        int addRule(int rank, Kind kind, int a, int b) {
            int number = ruleCount;
            if (number >= MOST_RULES) {
                return NONE;
            }
            Rule made = rules[number];
            made.rank = rank;
            made.kind = kind;
            made.a = a;
            made.b = b;
            noteClashes(number);
            insertInOrder(number);
            ruleCount++;
            return number;
        }

        int neverRefused(int i) {
            int before = 0;
            for (int number = 0; number < ruleCount; number++) {
                if (!rules[number].hasRefused) {
                    if (before == i) {
                        return number;
                    }
                    before++;
                }
            }
            return NONE;
        }

        private void noteClashes(int number) {
            Rule made = rules[number];
            for (int i = 0; i < number && clashCount < MOST_CLASHES; i++) {
                if (rules[i].rank == made.rank && rules[i].kind == made.kind) {
                    earlier[clashCount] = i;
                    later[clashCount] = number;
                    clashCount++;
                }
            }
        }

        /** Moves only greater ranks up, so that rules of equal rank stay in the order of their numbers. */
        private void insertInOrder(int number) {
            int slot = number;
            while (slot > 0 && rules[order[slot - 1]].rank > rules[number].rank) {
                order[slot] = order[slot - 1];
                slot--;
            }
            order[slot] = number;
        }
    }

    /** The signs that were collected, and the lines that are read from them. */
    private static final class Text {
        final int[] signs = new int[MOST_SIGNS];
        int signCount;
        // What is read waits here until the whole text is known to be right.
        final Rule[] drafts = new Rule[MOST_RULES];
        private int next;
        private int wrong;
        private int value;
        private Kind kind = Kind.SIZE;

        Text() {
            for (int i = 0; i < MOST_RULES; i++) {
                drafts[i] = new Rule();
            }
        }

        int collect(int c) {
            if (signCount >= MOST_SIGNS) {
                return NONE;
            }
            signs[signCount] = c;
            signCount++;
            return signCount;
        }

        void forget() {
            signCount = 0;
        }

        /** How many lines there are, all in drafts; or -1 less the first sign that is wrong. */
        int readLines(int room) {
            next = 0;
            int lines = 0;
            while (lines < room && lines < MOST_RULES && next < signCount) {
                if (!readLine(drafts[lines])) {
                    return -1 - wrong;
                }
                lines++;
            }
            // What is left begins with a line for whose rule there is no room.
            return next < signCount ? -1 - next : lines;
        }

        private boolean readLine(Rule draft) {
            if (!readNumber(1, MOST_RANK)) {
                return false;
            }
            draft.rank = value;
            if (!readBlank() || !readKind()) {
                return false;
            }
            draft.kind = kind;
            if (!readBlank() || !readNumber(kind.least, kind.most)) {
                return false;
            }
            draft.a = value;
            draft.b = 0;
            if (kind.hasSecond()) {
                if (!readBlank() || !readNumber(kind.leastSecond(), kind.mostSecond())) {
                    return false;
                }
                draft.b = value;
            }
            return next >= signCount || readSign(LINE_FEED);
        }

        /** Only what is a number, with all the digits that stand together, can be out of range. */
        private boolean readNumber(int least, int most) {
            int first = next;
            value = 0;
            for (int digits = 0; digits <= MOST_DIGITS && isDigit(nextSign()); digits++) {
                boolean behindZero = digits > 0 && value == 0;
                if (behindZero || digits == MOST_DIGITS) {
                    return fail(next);
                }
                value = value * 10 + nextSign() - '0';
                next++;
            }
            if (next == first) {
                return fail(next);
            }
            return value >= least && value <= most || fail(first);
        }

        /**
         * Takes the name that shares the most signs with the text, so that the first sign behind them
         * is wrong for all names; a whole name goes before a longer one that begins with it.
         */
        private boolean readKind() {
            int shared = -1;
            for (int k = 0; k < KINDS.length; k++) {
                int same = sharedSigns(KINDS[k].word);
                if (same > shared || same == shared && same == KINDS[k].word.length()) {
                    shared = same;
                    kind = KINDS[k];
                }
            }
            next += shared;
            return shared == kind.word.length() || fail(next);
        }

        private int sharedSigns(String word) {
            int same = 0;
            while (same < word.length() && next + same < signCount && signs[next + same] == word.charAt(same)) {
                same++;
            }
            return same;
        }

        private boolean readBlank() {
            return readSign(BLANK);
        }

        private boolean readSign(int due) {
            if (nextSign() != due) {
                return fail(next);
            }
            next++;
            return true;
        }

        /** The sign that is read next, or -1 behind the last one. */
        private int nextSign() {
            return next < signCount ? signs[next] : NONE;
        }

        private static boolean isDigit(int c) {
            return c >= '0' && c <= '9';
        }

        private boolean fail(int sign) {
            wrong = sign;
            return false;
        }
    }
}
