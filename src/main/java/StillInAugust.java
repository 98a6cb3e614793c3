import java.util.Arrays;

/** Who will still be here in August: a house's hands, week by week, as ../shared/DOC.md promises it. */
public final class StillInAugust {
    public static final int UNKNOWN = -1, OUTSIDE = -2, STATE = -3, FULL = -4, NONE = -9;

    private static final int RULES = 3;
    private static final int MOST_WEEKS = 5;
    private static final int MOST_HANDS = 4;
    private static final int MOST_LEVEL = 4;
    private static final int AGES = 3;
    private static final int MOST_COMING = 2;
    private static final int SLOTS = 2;

    /** In so many parts a Sunday is told: four hands, each by fifths. */
    private static final int PARTS = 625;

    private static final int WITHOUT_LETTING_GO = 1;
    private static final int WITHOUT_TEACHING = 2;
    private static final int WITHOUT_AGENCY = 4;
    private static final int WITHOUT_BONUS = 8;
    private static final int ALL_MEANS = 15;

    private final Text text = new Text();
    private final HouseReader houseReader = new HouseReader(text);
    private final RuleReader ruleReader = new RuleReader(text);
    private final House draft = new House();
    private final House house = new House();
    private final House bareHouse = new House();
    private final int[] levels = new int[RULES * MOST_WEEKS];
    private final Course course = new Course();
    private final Plan plan = new Plan();
    private final Plan barePlan = new Plan();
    private final Summer summer = new Summer();
    private final Summer firstKept = new Summer();
    private final Summer secondKept = new Summer();
    private final boolean[] kept = new boolean[SLOTS];
    private final Row row = new Row();

    /** Whether plan is the one of the house as it is now: it is made when it is first asked for. */
    private boolean planned;
    /** The means without which barePlan was made, NONE: it is none of this house. */
    private int bareMeans = NONE;

    public StillInAugust() {
        house.settle();
    }

    // ---- texts

    public int write(int n, long v) {
        if (n < 1 || n > 8) {
            return OUTSIDE;
        }
        if (!text.hasRoom(n)) {
            return FULL;
        }
        text.append(n, v);
        return text.length;
    }

    public int wipe() {
        int was = text.length;
        text.length = 0;
        return was;
    }

    public int fault(boolean rule) {
        return rule ? ruleReader.read() : houseReader.read(draft);
    }

    public int make() {
        if (houseReader.read(draft) != NONE) {
            return STATE;
        }
        house.copy(draft, 0);
        planned = false;
        bareMeans = NONE;
        summer.begin();
        for (int slot = 0; slot < SLOTS; slot++) {
            kept[slot] = false;
        }
        return house.weeks;
    }

    public int rule(int rule) {
        if (!isRule(rule)) {
            return UNKNOWN;
        }
        if (ruleReader.read() != NONE) {
            return STATE;
        }
        for (int week = 0; week < MOST_WEEKS; week++) {
            levels[rule * MOST_WEEKS + week] = ruleReader.levelIn(week);
        }
        return ruleReader.exceptions();
    }

    public int level(int rule, int week) {
        if (!isRule(rule) || week < 0 || week >= MOST_WEEKS) {
            return UNKNOWN;
        }
        return levelBy(rule, week);
    }

    public int week(int week, int what) {
        if (!isWeek(week)) {
            return UNKNOWN;
        }
        switch (what) {
            case 0:
                return house.wants[week];
            case 1:
                return house.offers[week];
            default:
                return OUTSIDE;
        }
    }

    public int aged(int age, int what) {
        if (age < 0 || age >= AGES) {
            return OUTSIDE;
        }
        switch (what) {
            case 0:
                return house.fifths(age);
            case 1:
                return house.does[age];
            default:
                return OUTSIDE;
        }
    }

    public int about(int what) {
        switch (what) {
            case 0:
                return house.weeks;
            case 1:
                return house.hooks;
            case 2:
                return house.pay;
            case 3:
                return house.shortPrice;
            case 4:
                return house.letGoPrice;
            case 5:
                return house.teachPrice;
            case 6:
                return house.agencyPrice;
            case 7:
                return house.bonus;
            default:
                return OUTSIDE;
        }
    }

    // ---- acts

    public int may(int week, int hands, int act) {
        int refusal = refuseAct(week, hands, 0, act);
        if (refusal == UNKNOWN || refusal == OUTSIDE) {
            return refusal;
        }
        return refusal == STATE ? 0 : 1;
    }

    public int then(int week, int hands, int act) {
        int refusal = refuseAct(week, hands, 0, act);
        return refusal != 0 ? refusal : Act.done(hands, act);
    }

    public int costs(int week, int hands, int coming, int act) {
        int refusal = refuseAct(week, hands, coming, act);
        return refusal != 0 ? refusal : house.weekCost(week, Act.done(hands, act), coming, act);
    }

    public int work(int week, int hands, int coming, int act, boolean idle) {
        int refusal = refuseAct(week, hands, coming, act);
        if (refusal != 0) {
            return refusal;
        }
        int lack = house.lack(week, Act.done(hands, act), coming, Act.taught(act));
        return Math.max(0, idle ? -lack : lack);
    }

    public long sunday(int hands, int others, boolean upper) {
        if (!isHands(hands)) {
            return OUTSIDE;
        }
        return told(house.becomes(hands, others), PARTS, upper);
    }

    public int takes(int rule, int week, int hands) {
        if (!isRule(rule) || !isWeek(week)) {
            return UNKNOWN;
        }
        if (!isHands(hands)) {
            return OUTSIDE;
        }
        return house.takenByLevel(week, hands, levelBy(rule, week));
    }

    // ---- by a rule

    public long mean(int rule, int week, int hands, int coming, boolean upper) {
        if (!isRule(rule)) {
            return UNKNOWN;
        }
        int refusal = refuseState(week, hands, coming);
        if (refusal != 0) {
            return refusal;
        }
        goToTheEnd(rule, week, hands, coming);
        return told(course.costs, course.scale, upper);
    }

    public long shortly(int rule, int week, boolean upper) {
        if (!isRule(rule) || !isWeek(week)) {
            return UNKNOWN;
        }
        goInto(rule, week);
        return told(course.shortShare, course.scale, upper);
    }

    public long idle(int rule, int week, boolean upper) {
        if (!isRule(rule) || !isWeek(week)) {
            return UNKNOWN;
        }
        goInto(rule, week);
        return told(course.idleSum, course.scale, upper);
    }

    public long there(int rule, int week, int n, boolean upper) {
        if (!isRule(rule) || week < 0 || week > house.weeks) {
            return UNKNOWN;
        }
        if (n < 0 || n > MOST_HANDS) {
            return OUTSIDE;
        }
        goAheadOf(rule, week);
        return told(course.shareOf(n), course.scale, upper);
    }

    public int cheapest() {
        int found = 0;
        long least = 0;
        for (int rule = 0; rule < RULES; rule++) {
            goToTheEnd(rule, 0, 0, 0);
            if (rule == 0 || course.costs < least) {
                found = rule;
                least = course.costs;
            }
        }
        return found;
    }

    // ---- the best

    public long best(int week, int hands, int coming, boolean upper) {
        int refusal = refuseState(week, hands, coming);
        if (refusal != 0) {
            return refusal;
        }
        planOnce();
        return told(plan.leastFrom(week, hands, coming), plan.scale(week), upper);
    }

    public int bestAct(int week, int hands, int coming) {
        int refusal = refuseState(week, hands, coming);
        if (refusal != 0) {
            return refusal;
        }
        planOnce();
        return plan.firstAct(week, hands, coming);
    }

    public int shape(int week) {
        if (!isWeek(week)) {
            return UNKNOWN;
        }
        planOnce();
        for (int level = 0; level <= MOST_LEVEL; level++) {
            if (firstAgainst(week, level) == NONE) {
                return level;
            }
        }
        return NONE;
    }

    public int against(int week, int l) {
        if (!isWeek(week)) {
            return UNKNOWN;
        }
        if (l < 0 || l > MOST_LEVEL) {
            return OUTSIDE;
        }
        planOnce();
        return firstAgainst(week, l);
    }

    public long without(int means, boolean upper) {
        if (means < 0 || means > ALL_MEANS) {
            return OUTSIDE;
        }
        if (bareMeans != means) {
            bareHouse.copy(house, means);
            barePlan.solve(bareHouse);
            bareMeans = means;
        }
        return told(barePlan.leastFrom(0, 0, 0), barePlan.scale(0), upper);
    }

    // ---- live

    public int act(int act) {
        if (act < 0) {
            return OUTSIDE;
        }
        if (!summer.mayAct(house, act)) {
            return STATE;
        }
        return summer.passWeek(house, act);
    }

    public int gone(int gone) {
        if (!Hands.areLeavers(gone)) {
            return OUTSIDE;
        }
        if (!summer.mayLeave(gone)) {
            return STATE;
        }
        summer.passSunday(house, gone);
        return Hands.total(summer.hands);
    }

    public int live(int what) {
        switch (what) {
            case 0:
                return summer.week;
            case 1:
                return summer.hands;
            case 2:
                return summer.coming;
            case 3:
                return summer.worked ? 1 : 0;
            case 4:
                return summer.costs;
            default:
                return OUTSIDE;
        }
    }

    public int keep(int slot) {
        if (!isSlot(slot)) {
            return UNKNOWN;
        }
        int answer = kept[slot] ? 0 : 1;
        keptIn(slot).copy(summer);
        kept[slot] = true;
        return answer;
    }

    public int again(int slot) {
        if (!isSlot(slot)) {
            return UNKNOWN;
        }
        if (!kept[slot]) {
            return STATE;
        }
        summer.copy(keptIn(slot));
        return summer.week;
    }

    // ---- rows

    public int tell(int act, int gone) {
        if (act < 0 || act > 9999 || !Hands.areLeavers(gone)) {
            return OUTSIDE;
        }
        if (row.length >= MOST_WEEKS) {
            return FULL;
        }
        row.append(act, gone);
        return row.length;
    }

    public int untell() {
        int was = row.length;
        row.length = 0;
        return was;
    }

    public int judge() {
        row.judgeBy(house);
        return row.wrongWeek;
    }

    public int paid() {
        row.judgeBy(house);
        return row.wrongWeek != NONE ? STATE : row.past.costs;
    }

    public long luck(boolean upper) {
        row.judgeBy(house);
        return row.wrongWeek != NONE ? STATE : told(row.chance, row.scale, upper);
    }

    public int worst() {
        row.judgeBy(house);
        return row.wrongWeek != NONE ? STATE : row.worstWeek;
    }

    public int count(int what) {
        switch (what) {
            case 0:
                return text.length;
            case 1:
                return row.length;
            case 2:
                return house.sumOf(house.wants);
            case 3:
                return house.sumOf(house.offers);
            default:
                return OUTSIDE;
        }
    }

    // ---- what the calls share

    private boolean isRule(int rule) {
        return rule >= 0 && rule < RULES;
    }

    private boolean isWeek(int week) {
        return week >= 0 && week < house.weeks;
    }

    private boolean isSlot(int slot) {
        return slot >= 0 && slot < SLOTS;
    }

    private boolean isHands(int hands) {
        return Hands.areAtMost(hands, house.hooks);
    }

    /** A part of a fraction in least terms; below is a power of five. */
    private static long told(long above, long below, boolean upper) {
        long top = above;
        long bottom = below;
        // five Sundays of four hands: five goes into the lower part no more than 20 times
        for (int i = 0; i < 20 && top % 5 == 0 && bottom % 5 == 0; i++) {
            top /= 5;
            bottom /= 5;
        }
        return upper ? top : bottom;
    }

    private Summer keptIn(int slot) {
        return slot == 0 ? firstKept : secondKept;
    }

    private int levelBy(int rule, int week) {
        return levels[rule * MOST_WEEKS + week];
    }

    /** 0, or why there is no such STATE. */
    private int refuseState(int week, int hands, int coming) {
        if (!isWeek(week)) {
            return UNKNOWN;
        }
        if (!isHands(hands) || coming < 0 || coming > house.mostComing()) {
            return OUTSIDE;
        }
        return 0;
    }

    /** 0, or why that ACT is refused in that STATE. */
    private int refuseAct(int week, int hands, int coming, int act) {
        int refusal = refuseState(week, hands, coming);
        if (refusal != 0) {
            return refusal;
        }
        if (act < 0) {
            return OUTSIDE;
        }
        return house.allows(week, hands, act) ? 0 : STATE;
    }

    private void goAheadOf(int rule, int week) {
        course.start(0);
        for (int past = 0; past < week; past++) {
            course.passWeek(house, past, levelBy(rule, past), 0);
            course.passSunday(house);
        }
    }

    private void goInto(int rule, int week) {
        goAheadOf(rule, week);
        course.passWeek(house, week, levelBy(rule, week), 0);
    }

    private void goToTheEnd(int rule, int from, int hands, int coming) {
        course.start(hands);
        for (int week = from; week < house.weeks; week++) {
            course.passWeek(house, week, levelBy(rule, week), week == from ? coming : 0);
            course.passSunday(house);
        }
        course.payBonus(house);
    }

    private void planOnce() {
        if (!planned) {
            plan.solve(house);
            planned = true;
        }
    }

    /** Of a house that is planned, the least HANDS with which a WEEK does not go by a level. */
    private int firstAgainst(int week, int level) {
        for (int hands : Hands.ALL) {
            if (isHands(hands)
                    && Act.taken(plan.firstAct(week, hands, 0)) != house.takenByLevel(week, hands, level)) {
                return hands;
            }
        }
        return NONE;
    }

    /** THE TEXT: bytes, one behind the other. */
    private static final class Text {
        static final int LONGEST = 64;

        private final byte[] bytes = new byte[LONGEST];
        int length;

        boolean hasRoom(int n) {
            return length + n <= LONGEST;
        }

        void append(int n, long v) {
            for (int left = n - 1; left >= 0; left--) {
                bytes[length] = (byte) (v >>> (8 * left));
                length++;
            }
        }

        /** The byte at a place, 0 to 255; NONE behind the end. */
        int at(int place) {
            return place >= 0 && place < length ? bytes[place] & 255 : NONE;
        }
    }

    /** A place in THE TEXT that goes on byte by byte, and stops for good at the first that can not be. */
    private static final class Cursor {
        private final Text text;
        private int place;
        private boolean stopped;

        Cursor(Text text) {
            this.text = text;
        }

        void start() {
            place = 0;
            stopped = false;
        }

        boolean hasMore() {
            return !stopped && place < text.length;
        }

        int here() {
            return text.at(place);
        }

        void step() {
            place++;
        }

        void stop() {
            stopped = true;
        }

        /** The figure here, if its bit is set in those that may be; else NONE, and it stops. */
        int figure(int mayBe) {
            int found = here() - '0';
            if (found < 0 || found > 9 || (mayBe >> found & 1) == 0) {
                stop();
                return NONE;
            }
            step();
            return found;
        }

        /** Where it stopped; NONE: it did not. */
        int stoppedAt() {
            return stopped ? place : NONE;
        }

        /** The bits of the figures from the least to the most. */
        static int figures(int least, int most) {
            return (1 << (most + 1)) - (1 << least);
        }
    }

    /** Reads THE TEXT as a HOUSE. */
    private static final class HouseReader {
        private final Cursor cursor;
        /** By letter, the bits of the WEEKS or AGES (or just bit 0) that were not told of yet. */
        private final int[] untold = new int[26];

        HouseReader(Text text) {
            cursor = new Cursor(text);
        }

        /** Its FAULT; if that is NONE, the house told is what was read. */
        int read(House told) {
            cursor.start();
            told.clear();
            readWeeks(told);
            for (int part = 0; part < Text.LONGEST && cursor.hasMore(); part++) {
                readPart(told);
            }
            return cursor.stoppedAt();
        }

        private void readWeeks(House told) {
            if (cursor.here() != 'N') {
                cursor.stop();
                return;
            }
            cursor.step();
            int weeks = cursor.figure(Cursor.figures(1, MOST_WEEKS));
            if (weeks == NONE) {
                return;
            }
            told.weeks = weeks;
            expectParts(weeks);
        }

        private void expectParts(int weeks) {
            expectOnce("HPSGTAB", 0);
            expectOnce("WO", weeks - 1);
            expectOnce("QD", AGES - 1);
        }

        private void expectOnce(String letters, int last) {
            for (int i = 0; i < letters.length(); i++) {
                untold[letters.charAt(i) - 'A'] = Cursor.figures(0, last);
            }
        }

        private void readPart(House told) {
            int letter = cursor.here();
            if (letter < 'A' || letter > 'Z' || untold[letter - 'A'] == 0) {
                cursor.stop();
                return;
            }
            cursor.step();
            int which = tellsWhich(letter) ? cursor.figure(untold[letter - 'A']) : 0;
            if (which == NONE) {
                return;
            }
            untold[letter - 'A'] &= ~(1 << which);
            int first = cursor.figure(firstFigures(letter));
            if (first == NONE) {
                return;
            }
            int second = hasSecond(letter) ? cursor.figure(secondFigures(letter)) : 0;
            if (second == NONE) {
                return;
            }
            told.put(letter, which, first, second);
        }

        private static boolean tellsWhich(int letter) {
            return letter == 'W' || letter == 'O' || letter == 'Q' || letter == 'D';
        }

        private static int firstFigures(int letter) {
            switch (letter) {
                case 'H':
                    return Cursor.figures(1, MOST_HANDS);
                case 'O':
                    return Cursor.figures(0, 4);
                case 'Q':
                    return Cursor.figures(0, 5);
                default:
                    return Cursor.figures(0, 9);
            }
        }

        private static boolean hasSecond(int letter) {
            return letter == 'W' || letter == 'B';
        }

        private static int secondFigures(int letter) {
            return Cursor.figures(0, letter == 'B' ? 5 : 9);
        }
    }

    /** Reads THE TEXT as a RULE. */
    private static final class RuleReader {
        private final Cursor cursor;
        private final int[] exceptLevel = new int[MOST_WEEKS];
        private int otherLevel;
        private int untoldWeeks;

        RuleReader(Text text) {
            cursor = new Cursor(text);
        }

        /** Its FAULT; if that is NONE, the levels are what was read. */
        int read() {
            cursor.start();
            untoldWeeks = Cursor.figures(0, MOST_WEEKS - 1);
            for (int i = 0; i < MOST_WEEKS && cursor.hasMore() && cursor.here() != 'L'; i++) {
                readException();
            }
            readEnd();
            return cursor.stoppedAt();
        }

        private void readException() {
            int week = cursor.figure(untoldWeeks);
            if (week == NONE) {
                return;
            }
            int level = cursor.figure(Cursor.figures(0, MOST_LEVEL));
            if (level == NONE) {
                return;
            }
            untoldWeeks &= ~(1 << week);
            exceptLevel[week] = level;
        }

        private void readEnd() {
            if (cursor.stoppedAt() != NONE) {
                return;
            }
            if (cursor.here() != 'L') {
                cursor.stop();
                return;
            }
            cursor.step();
            int level = cursor.figure(Cursor.figures(0, MOST_LEVEL));
            if (level == NONE) {
                return;
            }
            otherLevel = level;
            if (cursor.hasMore()) {
                cursor.stop();
            }
        }

        int levelIn(int week) {
            return (untoldWeeks >> week & 1) == 0 ? exceptLevel[week] : otherLevel;
        }

        int exceptions() {
            return MOST_WEEKS - Integer.bitCount(untoldWeeks);
        }
    }

    /** HANDS, told as a number with a figure for each AGE. */
    private static final class Hands {
        /** All that can be, from the least number on. */
        static final int[] ALL = {
            0, 1, 2, 3, 4, 10, 11, 12, 13, 20, 21, 22, 30, 31, 40,
            100, 101, 102, 103, 110, 111, 112, 120, 121, 130,
            200, 201, 202, 210, 211, 220,
            300, 301, 310,
            400};
        static final int KINDS = 35;
        /** Behind a Sunday nobody is of AGE 0: it is one of the first so many kinds. */
        static final int KINDS_BEHIND_SUNDAY = 15;
        /** By how many are of AGE 0, where those kinds begin among all. */
        private static final int[] BEGINNINGS = {0, 15, 25, 31, 34};

        static int ofAge(int hands, int age) {
            return age == 0 ? hands / 100 : age == 1 ? hands / 10 % 10 : hands % 10;
        }

        static int total(int hands) {
            return hands / 100 + hands / 10 % 10 + hands % 10;
        }

        static boolean areAtMost(int hands, int most) {
            return hands >= 0 && hands <= 999 && total(hands) <= most;
        }

        static boolean areLeavers(int gone) {
            return gone >= 0 && gone <= 444 && gone / 10 % 10 <= 4 && gone % 10 <= 4;
        }

        /** The place among all kinds of hands that can be. */
        static int kind(int hands) {
            int young = hands / 100;
            int middle = hands / 10 % 10;
            // each hand more of AGE 1 leaves one kind less for those of AGE 2
            int before = middle * (MOST_HANDS + 1 - young) - middle * (middle - 1) / 2;
            return BEGINNINGS[young] + before + hands % 10;
        }

        /** Whether of each AGE there are as many as these, or more. */
        static boolean has(int hands, int these) {
            return these / 100 <= hands / 100 && these / 10 % 10 <= hands / 10 % 10 && these % 10 <= hands % 10;
        }

        static int lessYoungestFirst(int hands, int letGo) {
            int young = Math.min(letGo, hands / 100);
            int middle = Math.min(letGo - young, hands / 10 % 10);
            return hands - 100 * young - 10 * middle - (letGo - young - middle);
        }

        /** Who is there on Monday, when of hands these have gone. */
        static int behindSunday(int hands, int gone) {
            int stay = hands - gone;
            return 10 * (stay / 100) + stay / 10 % 10 + stay % 10;
        }
    }

    /** A MONDAY'S ACT, told as a number with a figure for each thing that is done. */
    private static final class Act {
        static int letGo(int act) {
            return act / 1000;
        }

        static int taken(int act) {
            return act / 100 % 10;
        }

        static int taught(int act) {
            return act / 10 % 10;
        }

        static int ordered(int act) {
            return act % 10;
        }

        /** HANDS once an act is done that may be. */
        static int done(int hands, int act) {
            // a hand that is taught goes from the hundreds to the tens
            return Hands.lessYoungestFirst(hands, letGo(act)) + 100 * taken(act) - 90 * taught(act);
        }
    }

    /** THE HOUSE, and what goes on in a WEEK of it. */
    private static final class House {
        /** How many ways there are to choose k of n hands, at 5 n + k. */
        private static final int[] WAYS = {
            1, 0, 0, 0, 0,
            1, 1, 0, 0, 0,
            1, 2, 1, 0, 0,
            1, 3, 3, 1, 0,
            1, 4, 6, 4, 1};
        /** b to the power of k, at 5 b + k. */
        private static final int[] POWERS = {
            1, 0, 0, 0, 0,
            1, 1, 1, 1, 1,
            1, 2, 4, 8, 16,
            1, 3, 9, 27, 81,
            1, 4, 16, 64, 256,
            1, 5, 25, 125, 625};

        int weeks;
        int hooks;
        final int[] wants = new int[MOST_WEEKS];
        final int[] offers = new int[MOST_WEEKS];
        final int[] goes = new int[AGES];
        final int[] does = new int[AGES];
        int pay;
        int shortPrice;
        int letGoPrice;
        int teachPrice;
        int agencyPrice;
        int bonus;
        int fifthsLess;
        /** How likely, in parts, hands of one kind are of another behind a Sunday. */
        private final int[] sundays = new int[Hands.KINDS * Hands.KINDS_BEHIND_SUNDAY];

        House() {
            clear();
        }

        /** A house of one WEEK, of which nothing else is told. */
        void clear() {
            weeks = 1;
            hooks = 2;
            Arrays.fill(wants, 0);
            Arrays.fill(offers, 1);
            Arrays.fill(goes, 1);
            Arrays.fill(does, 4);
            pay = 1;
            shortPrice = 1;
            letGoPrice = NONE;
            teachPrice = NONE;
            agencyPrice = NONE;
            bonus = NONE;
            fifthsLess = 0;
        }

        /** What a PART tells: its letter, for which WEEK or AGE, and its figures. */
        void put(int letter, int which, int first, int second) {
            switch (letter) {
                case 'H':
                    hooks = first;
                    break;
                case 'W':
                    wants[which] = 10 * first + second;
                    break;
                case 'O':
                    offers[which] = first;
                    break;
                case 'Q':
                    goes[which] = first;
                    break;
                case 'D':
                    does[which] = first;
                    break;
                case 'P':
                    pay = first;
                    break;
                case 'S':
                    shortPrice = first;
                    break;
                default:
                    putMeans(letter, first, second);
                    break;
            }
        }

        private void putMeans(int letter, int first, int second) {
            switch (letter) {
                case 'G':
                    letGoPrice = first;
                    break;
                case 'T':
                    teachPrice = first;
                    break;
                case 'A':
                    agencyPrice = first;
                    break;
                case 'B':
                    bonus = first;
                    fifthsLess = second;
                    break;
                default:
                    break;
            }
        }

        /** It is another house, but for some means. */
        void copy(House other, int means) {
            weeks = other.weeks;
            hooks = other.hooks;
            System.arraycopy(other.wants, 0, wants, 0, MOST_WEEKS);
            System.arraycopy(other.offers, 0, offers, 0, MOST_WEEKS);
            System.arraycopy(other.goes, 0, goes, 0, AGES);
            System.arraycopy(other.does, 0, does, 0, AGES);
            pay = other.pay;
            shortPrice = other.shortPrice;
            letGoPrice = (means & WITHOUT_LETTING_GO) != 0 ? NONE : other.letGoPrice;
            teachPrice = (means & WITHOUT_TEACHING) != 0 ? NONE : other.teachPrice;
            agencyPrice = (means & WITHOUT_AGENCY) != 0 ? NONE : other.agencyPrice;
            bonus = (means & WITHOUT_BONUS) != 0 ? NONE : other.bonus;
            fifthsLess = (means & WITHOUT_BONUS) != 0 ? 0 : other.fifthsLess;
            settle();
        }

        /** Reckons the Sundays: for a house that will be lived in, once all of it is told. */
        void settle() {
            Arrays.fill(sundays, 0);
            for (int kind = 0; kind < Hands.KINDS; kind++) {
                int hands = Hands.ALL[kind];
                for (int gone : Hands.ALL) {
                    if (Hands.has(hands, gone)) {
                        int behind = Hands.kind(Hands.behindSunday(hands, gone));
                        sundays[kind * Hands.KINDS_BEHIND_SUNDAY + behind] += leaving(hands, gone);
                    }
                }
            }
        }

        int fifths(int age) {
            return Math.max(0, goes[age] - fifthsLess);
        }

        /** How likely, in parts, of hands just these go on a Sunday. */
        int leaving(int hands, int gone) {
            if (!Hands.has(hands, gone)) {
                return 0;
            }
            int parts = POWERS[5 * 5 + MOST_HANDS - Hands.total(hands)];
            for (int age = 0; age < AGES; age++) {
                int all = Hands.ofAge(hands, age);
                int left = Hands.ofAge(gone, age);
                int fifths = fifths(age);
                parts *= WAYS[5 * all + left] * POWERS[5 * fifths + left] * POWERS[5 * (5 - fifths) + all - left];
            }
            return parts;
        }

        /** How likely, in parts, hands that did a WEEK are others on Monday; these may be any number. */
        int becomes(int hands, int others) {
            if (!Hands.areAtMost(others, MOST_HANDS) || others >= 100) {
                return 0;
            }
            return partsTo(Hands.kind(hands), Hands.kind(others));
        }

        int partsTo(int kind, int behind) {
            return sundays[kind * Hands.KINDS_BEHIND_SUNDAY + behind];
        }

        int mostComing() {
            return agencyPrice == NONE ? 0 : MOST_COMING;
        }

        int mostOrdered(int week) {
            return week == weeks - 1 ? 0 : mostComing();
        }

        int mostLetGo(int hands) {
            return letGoPrice == NONE ? 0 : Hands.total(hands);
        }

        int mostTaken(int week, int hands) {
            return Math.min(offers[week], hooks - Hands.total(hands));
        }

        int mostTaught(int hands) {
            return teachPrice != NONE && Hands.ofAge(hands, 0) > 0 && Hands.ofAge(hands, 2) > 0 ? 1 : 0;
        }

        boolean allows(int week, int hands, int act) {
            if (Act.letGo(act) > mostLetGo(hands)) {
                return false;
            }
            int stay = Hands.lessYoungestFirst(hands, Act.letGo(act));
            if (Act.taken(act) > mostTaken(week, stay)) {
                return false;
            }
            return Act.taught(act) <= mostTaught(stay + 100 * Act.taken(act))
                    && Act.ordered(act) <= mostOrdered(week);
        }

        int takenByLevel(int week, int hands, int level) {
            return Math.min(mostTaken(week, hands), Math.max(0, level - Hands.total(hands)));
        }

        /** What the WEEK wants less what is done by the hands that do it: above 0 SHORT, below it IDLE. */
        int lack(int week, int hands, int coming, int taught) {
            // who teaches does no work
            int experienced = hands % 10 + coming - taught;
            return wants[week] - does[0] * (hands / 100) - does[1] * (hands / 10 % 10) - does[2] * experienced;
        }

        /** What the WEEK costs, done by these hands once the act was. */
        int weekCost(int week, int hands, int coming, int act) {
            int taught = Act.taught(act);
            int cost = pay * Hands.total(hands) + shortPrice * Math.max(0, lack(week, hands, coming, taught));
            if (letGoPrice != NONE) {
                cost += letGoPrice * Act.letGo(act);
            }
            if (teachPrice != NONE) {
                cost += teachPrice * taught;
            }
            if (agencyPrice != NONE) {
                cost += agencyPrice * coming;
            }
            return cost;
        }

        int bonusFor(int hands) {
            return bonus == NONE ? 0 : bonus * Hands.total(hands);
        }

        int sumOf(int[] byWeek) {
            int sum = 0;
            for (int week = 0; week < weeks && week < byWeek.length; week++) {
                sum += byWeek[week];
            }
            return sum;
        }
    }

    /** All that may come by a RULE: how likely each kind of hands is, told in a scale that grows by Sundays. */
    private static final class Course {
        private final long[] ahead = new long[Hands.KINDS];
        private final long[] during = new long[Hands.KINDS];
        long scale;
        /** The mean of all costs so far, how likely the last WEEK was SHORT, its mean of IDLE: in the scale. */
        long costs;
        long shortShare;
        long idleSum;

        void start(int hands) {
            Arrays.fill(ahead, 0);
            ahead[Hands.kind(hands)] = 1;
            scale = 1;
            costs = 0;
        }

        void passWeek(House house, int week, int level, int coming) {
            Arrays.fill(during, 0);
            shortShare = 0;
            idleSum = 0;
            for (int kind = 0; kind < Hands.KINDS; kind++) {
                if (ahead[kind] != 0) {
                    int hands = Hands.ALL[kind];
                    int act = 100 * house.takenByLevel(week, hands, level);
                    passWeekWith(house, week, hands + act, coming, ahead[kind]);
                }
            }
        }

        private void passWeekWith(House house, int week, int hands, int coming, long share) {
            int lack = house.lack(week, hands, coming, 0);
            costs += share * house.weekCost(week, hands, coming, 0);
            shortShare += lack > 0 ? share : 0;
            idleSum += share * Math.max(0, -lack);
            during[Hands.kind(hands)] += share;
        }

        void passSunday(House house) {
            Arrays.fill(ahead, 0);
            for (int kind = 0; kind < Hands.KINDS; kind++) {
                if (during[kind] != 0) {
                    for (int behind = 0; behind < Hands.KINDS_BEHIND_SUNDAY; behind++) {
                        ahead[behind] += during[kind] * house.partsTo(kind, behind);
                    }
                }
            }
            scale *= PARTS;
            costs *= PARTS;
        }

        void payBonus(House house) {
            for (int kind = 0; kind < Hands.KINDS; kind++) {
                costs += ahead[kind] * house.bonusFor(Hands.ALL[kind]);
            }
        }

        long shareOf(int total) {
            long share = 0;
            for (int kind = 0; kind < Hands.KINDS; kind++) {
                if (Hands.total(Hands.ALL[kind]) == total) {
                    share += ahead[kind];
                }
            }
            return share;
        }
    }

    /** THE BEST of a house from each STATE, from the last WEEK back. */
    private static final class Plan {
        private static final int COMINGS = MOST_COMING + 1;
        /** How many parts so many Sundays are told in. */
        private static final long[] SCALES = {
            1L, 625L, 390625L, 244140625L, 152587890625L, 95367431640625L};

        private int weeks;
        /** By WEEK, COMING and kind of hands: the least mean of costs, in the scale of the WEEK, and its act. */
        private final long[] cost = new long[(MOST_WEEKS + 1) * COMINGS * Hands.KINDS];
        private final int[] first = new int[MOST_WEEKS * COMINGS * Hands.KINDS];
        /** By kind of hands that do a WEEK: what comes behind it by the best order, and that order. */
        private final long[] later = new long[Hands.KINDS];
        private final int[] order = new int[Hands.KINDS];

        private static int place(int week, int kind, int coming) {
            return (week * COMINGS + coming) * Hands.KINDS + kind;
        }

        /** The least mean of costs from a STATE, in the scale of its WEEK. */
        long leastFrom(int week, int hands, int coming) {
            return cost[place(week, Hands.kind(hands), coming)];
        }

        int firstAct(int week, int hands, int coming) {
            return first[place(week, Hands.kind(hands), coming)];
        }

        long scale(int week) {
            return SCALES[weeks - week];
        }

        void solve(House house) {
            weeks = house.weeks;
            for (int kind = 0; kind < Hands.KINDS; kind++) {
                cost[place(weeks, kind, 0)] = house.bonusFor(Hands.ALL[kind]);
            }
            for (int week = weeks - 1; week >= 0; week--) {
                chooseOrders(house, week);
                chooseActs(house, week);
            }
        }

        private void chooseOrders(House house, int week) {
            int most = house.mostOrdered(week);
            for (int kind = 0; kind < Hands.KINDS; kind++) {
                if (Hands.total(Hands.ALL[kind]) > house.hooks) {
                    continue;
                }
                for (int ordered = 0; ordered <= most; ordered++) {
                    long mean = meanBehind(house, kind, week + 1, ordered);
                    if (ordered == 0 || mean < later[kind]) {
                        later[kind] = mean;
                        order[kind] = ordered;
                    }
                }
            }
        }

        private long meanBehind(House house, int kind, int next, int coming) {
            long sum = 0;
            for (int behind = 0; behind < Hands.KINDS_BEHIND_SUNDAY; behind++) {
                sum += house.partsTo(kind, behind) * cost[place(next, behind, coming)];
            }
            return sum;
        }

        private void chooseActs(House house, int week) {
            int most = house.mostComing();
            for (int hands : Hands.ALL) {
                if (Hands.total(hands) > house.hooks) {
                    continue;
                }
                for (int coming = 0; coming <= most; coming++) {
                    chooseAct(house, week, hands, coming);
                }
            }
        }

        /** Acts are gone through from the least number on, so that of like ones the least stays. */
        private void chooseAct(House house, int week, int hands, int coming) {
            long least = Long.MAX_VALUE;
            int found = 0;
            long scale = scale(week);
            int mostLetGo = house.mostLetGo(hands);
            for (int letGo = 0; letGo <= mostLetGo; letGo++) {
                int stay = Hands.lessYoungestFirst(hands, letGo);
                int mostTaken = house.mostTaken(week, stay);
                for (int taken = 0; taken <= mostTaken; taken++) {
                    int mostTaught = house.mostTaught(stay + 100 * taken);
                    for (int taught = 0; taught <= mostTaught; taught++) {
                        int act = 1000 * letGo + 100 * taken + 10 * taught;
                        int done = Act.done(hands, act);
                        int kind = Hands.kind(done);
                        long mean = house.weekCost(week, done, coming, act) * scale + later[kind];
                        if (mean < least) {
                            least = mean;
                            found = act + order[kind];
                        }
                    }
                }
            }
            int place = place(week, Hands.kind(hands), coming);
            cost[place] = least;
            first[place] = found;
        }
    }

    /** A summer as it goes by: what is LIVE, or was kept, or a past one that is gone through anew. */
    private static final class Summer {
        int week;
        int hands;
        int coming;
        /** Ordered on this Monday: they are COMING behind Sunday. */
        private int ordered;
        boolean worked;
        int costs;

        void begin() {
            week = 0;
            hands = 0;
            coming = 0;
            ordered = 0;
            worked = false;
            costs = 0;
        }

        void copy(Summer other) {
            week = other.week;
            hands = other.hands;
            coming = other.coming;
            ordered = other.ordered;
            worked = other.worked;
            costs = other.costs;
        }

        boolean mayAct(House house, int act) {
            return !worked && week < house.weeks && house.allows(week, hands, act);
        }

        /** Monday's act, that may be, and the WEEK: what it costs. */
        int passWeek(House house, int act) {
            hands = Act.done(hands, act);
            ordered = Act.ordered(act);
            worked = true;
            int cost = house.weekCost(week, hands, coming, act);
            costs += cost;
            return cost;
        }

        boolean mayLeave(int gone) {
            return worked && Hands.has(hands, gone);
        }

        void passSunday(House house, int gone) {
            hands = Hands.behindSunday(hands, gone);
            coming = ordered;
            worked = false;
            week++;
            if (week == house.weeks) {
                costs += house.bonusFor(hands);
            }
        }
    }

    /** THE ROW: a past summer as it is told, and how it is judged. */
    private static final class Row {
        private final int[] acts = new int[MOST_WEEKS];
        private final int[] leavers = new int[MOST_WEEKS];
        int length;

        final Summer past = new Summer();
        int wrongWeek;
        int worstWeek;
        private int mostLost;
        long chance;
        long scale;

        void append(int act, int gone) {
            acts[length] = act;
            leavers[length] = gone;
            length++;
        }

        /** What was judged is told by the fields; but for wrongWeek only if that is NONE. */
        void judgeBy(House house) {
            past.begin();
            wrongWeek = NONE;
            worstWeek = NONE;
            mostLost = 0;
            chance = 1;
            scale = 1;
            for (int week = 0; week < length && wrongWeek == NONE; week++) {
                judgeWeek(house, acts[week], leavers[week]);
            }
        }

        private void judgeWeek(House house, int act, int gone) {
            if (!past.mayAct(house, act)) {
                wrongWeek = past.week;
                return;
            }
            past.passWeek(house, act);
            int parts = house.leaving(past.hands, gone);
            if (parts == 0) {
                wrongWeek = past.week;
                return;
            }
            chance *= parts;
            scale *= PARTS;
            int lack = house.lack(past.week, past.hands, past.coming, Act.taught(act));
            noteLoss(past.week, house.shortPrice * lack);
            past.passSunday(house, gone);
        }

        private void noteLoss(int week, int lost) {
            if (lost > mostLost) {
                mostLost = lost;
                worstWeek = week;
            }
        }
    }
}
