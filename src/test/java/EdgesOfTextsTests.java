/** THE TEXT, houses and rules told by it (part 1 of the terms, promises 1 to 10): a test for each boundary named. */
public final class EdgesOfTextsTests extends Checks {
    private static final String[] KINDS_OF_ONE = {"H1", "P2", "S3", "G4", "T5", "A6", "B75"};
    private static final String[] ALL_PARTS = {
        "H1", "W000", "O00", "Q00", "D00", "P0", "S0", "G0", "T0", "A0", "B00"};

    /** Behind a start each byte is asked for: only these may come there; with one of them it is whole, or not yet. */
    private static void next(String start, boolean rule, String mayCome, boolean whole) {
        StillInAugust x = new StillInAugust();
        for (int b = 0; b < 256; b++) {
            x = b % 8 == 0 ? new StillInAugust() : x;
            String text = start + (char) b;
            text(x, text);
            int want = mayCome.indexOf(b) < 0 ? start.length() : whole ? NONE : text.length();
            due("fault(" + rule + ") of " + start + " and byte " + b, x.fault(rule), want);
        }
    }

    private static void nextOfHouse(String start, String mayCome, boolean whole) {
        next(start, false, mayCome, whole);
    }

    private static void nextOfRule(String start, String mayCome, boolean whole) {
        next(start, true, mayCome, whole);
    }

    private static void faultOf(String text, boolean rule, int want) {
        due("fault(" + rule + ") of " + text, told(text).fault(rule), want);
    }

    private static void textIsBytes() {
        says("Terms 1", "THE TEXT is bytes (64 at most)");
        StillInAugust x = new StillInAugust();
        for (int i = 1; i <= 64; i++) {
            // bytes 0 and 255 are bytes like any others
            due("write(1) no. " + i, x.write(1, i % 2 == 0 ? 0 : 255), i);
        }
        each("write(1, v), 64 are there", v -> x.write(1, v), FULL, 0, 78, 255);
        due("count(0)", x.count(0), 64);
    }

    private static void bytesWritten() {
        says("Promise 2", "n bytes (1 to 8) of v");
        StillInAugust x = new StillInAugust();
        each("write(n)", n -> x.write(n, 78), OUTSIDE, 0, -1, -8, 9, 10, 64, 256, LEAST, MOST);
        due("count(0)", x.count(0), 0);
        int length = 0;
        for (int n = 1; n <= 8; n++) {
            length += n;
            due("write(" + n + ")", x.write(n, 0), length);
        }
    }

    private static void lowestBytes() {
        says("Promise 2", "the lowest n, the highest of these first");
        StillInAugust x = new StillInAugust();
        x.write(1, 0x313131313131314EL);
        x.write(1, 0x4E4E4E4E4E4E4E35L);
        due("make(), just the lowest byte", x.make(), 5);
        x.wipe();
        x.write(8, 0x4E33483450395339L);
        due("make(), all eight", x.make(), 3);
        due("about(1)", x.about(1), 4);
        due("about(2)", x.about(2), 9);
        due("about(3)", x.about(3), 9);
        x.wipe();
        x.write(2, 0x344EL);
        due("fault(false), the highest first", x.fault(false), 0);
    }

    private static void signOfWritten() {
        says("Promise 2", "the lowest n, the highest of these first");
        StillInAugust x = new StillInAugust();
        x.write(2, -0x10000L | 0x4E32);
        due("make(), a negative v", x.make(), 2);
        x.wipe();
        // "N1D" whole, then the byte 255: it is no figure, and it is not -1
        x.write(3, 0x4E3144L);
        due("write(1, -1)", x.write(1, -1), 4);
        due("fault(false)", x.fault(false), 3);
        x.wipe();
        due("write(8, least)", x.write(8, Long.MIN_VALUE), 8);
        due("fault(false)", x.fault(false), 0);
        x.wipe();
        due("write(7, least): its highest byte is left away", x.write(7, Long.MIN_VALUE | 0x4E324831503153L), 7);
        due("fault(false)", x.fault(false), 7);
    }

    private static void writtenTooLong() {
        says("Promise 2", "FULL: it would be longer than 64 (nothing comes)");
        for (int n = 1; n <= 8; n++) {
            StillInAugust x = told(LONGEST.substring(0, 64 - n));
            for (int more = n + 1; more <= 8; more++) {
                due("write(" + more + ") behind " + (64 - n), x.write(more, 0), FULL);
            }
            due("count(0)", x.count(0), 64 - n);
            long rest = 0;
            for (int i = 64 - n; i < 64; i++) {
                rest = rest << 8 | LONGEST.charAt(i);
            }
            due("write(" + n + ") behind " + (64 - n), x.write(n, rest), 64);
            due("make(): nothing had come", x.make(), 5);
            due("write(1), full", x.write(1, 48), FULL);
        }
    }

    private static void wiped() {
        says("Promise 3", "THE TEXT is empty: how long it was");
        StillInAugust x = new StillInAugust();
        due("wipe(), empty", x.wipe(), 0);
        text(x, LONGEST);
        x.make();
        due("wipe(), full", x.wipe(), 64);
        due("count(0)", x.count(0), 0);
        due("fault(false)", x.fault(false), 0);
        due("fault(true)", x.fault(true), 0);
        due("about(0): the house stays", x.about(0), 5);
        due("wipe(), empty again", x.wipe(), 0);
        due("write(8), there is room again", x.write(8, 0), 8);
        text(x, "N");
        // the old bytes behind the end count no more
        due("fault(false)", x.fault(false), 1);
    }

    private static void partsOnce() {
        says("Terms 1", "of a kind (and a WEEK, or an age) at most once");
        for (String part : KINDS_OF_ONE) {
            faultOf("N1" + part, false, NONE);
            faultOf("N1" + part + part, false, 2 + part.length());
            faultOf("N1" + part + "Q00" + part, false, 5 + part.length());
        }
        nextOfHouse("N2W000W", "1", false);
        nextOfHouse("N3O11O", "02", false);
        nextOfHouse("N1Q25Q", "01", false);
        nextOfHouse("N1D19D01D", "2", false);
        nextOfHouse("N1H1P2S3G4T5A6B75", "WOQD", false);
        // a WEEK of W is no WEEK of O, an age of Q none of D
        nextOfHouse("N1W099", "HOQDPSGTAB", false);
        nextOfHouse("N1O04", "HWQDPSGTAB", false);
        nextOfHouse("N1Q00Q10Q20", "HWODPSGTAB", false);
        nextOfHouse("N1D00D10D20", "HWOQPSGTAB", false);
        nextOfHouse("N1D00D10D20H1W000O00Q00Q10Q20P0S0G0T0A0B00", "", false);
    }

    private static void weeksOfHouse() {
        says("Terms 1", "WEEKS 0 to w - 1 (w 1 to 5); the first PART (it must stand)");
        nextOfHouse("", "N", false);
        nextOfHouse("N", "12345", true);
        nextOfHouse("N1", "HWOQDPSGTAB", false);
        for (String part : ALL_PARTS) {
            faultOf(part, false, 0);
            faultOf(part + "N1", false, 0);
        }
        for (int w = 1; w <= 5; w++) {
            due("make() of N" + w, told("N" + w).make(), w);
            nextOfHouse("N" + w + "W", "01234".substring(0, w), false);
            nextOfHouse("N" + w + "O", "01234".substring(0, w), false);
        }
    }

    private static void hooks() {
        says("Terms 1", "HOOKS: no more than h hands at once (1 to 4; else 2)");
        nextOfHouse("N1H", "1234", true);
        due("about(1), none told", house("N1").about(1), 2);
        for (int h = 1; h <= 4; h++) {
            due("about(1)", house("N1H" + h).about(1), h);
        }
    }

    private static void wants() {
        says("Terms 1", "WEEK w wants xy of work (two figures; else 0)");
        nextOfHouse("N1W0", FIGURES, false);
        nextOfHouse("N1W00", FIGURES, true);
        nextOfHouse("N1W09", FIGURES, true);
        nextOfHouse("N1W099", "HOQDPSGTAB", false);
        StillInAugust x = house("N4W000W199W209");
        int[] wants = {0, 99, 9, 0};
        for (int week = 0; week < 4; week++) {
            due("week(" + week + ", 0)", x.week(week, 0), wants[week]);
        }
    }

    private static void offers() {
        says("Terms 1", "in WEEK w k people OFFER themselves (0 to 4; else 1)");
        nextOfHouse("N5O4", "01234", true);
        StillInAugust x = house("N3O00O24");
        due("week(0, 1)", x.week(0, 1), 0);
        due("week(1, 1), none told", x.week(1, 1), 1);
        due("week(2, 1)", x.week(2, 1), 4);
    }

    private static void goes() {
        says("Terms 1", "hands of AGE a (0, 1, or 2: here for so many Sundays, 2 and more) go on a Sunday "
                + "with a chance of x fifths each (0 to 5; else 1)");
        nextOfHouse("N1Q", "012", false);
        for (int age = 0; age < 3; age++) {
            nextOfHouse("N1Q" + age, "012345", true);
        }
        StillInAugust x = house("N1Q00Q25");
        due("aged(0, 0)", x.aged(0, 0), 0);
        due("aged(1, 0), none told", x.aged(1, 0), 1);
        due("aged(2, 0)", x.aged(2, 0), 5);
    }

    private static void does() {
        says("Terms 1", "a hand of AGE a DOES x of work in a WEEK (0 to 9; else 4)");
        nextOfHouse("N1D", "012", false);
        for (int age = 0; age < 3; age++) {
            nextOfHouse("N1D" + age, FIGURES, true);
        }
        StillInAugust x = house("N1D00D29");
        due("aged(0, 1)", x.aged(0, 1), 0);
        due("aged(1, 1), none told", x.aged(1, 1), 4);
        due("aged(2, 1)", x.aged(2, 1), 9);
    }

    private static void pays() {
        says("Terms 1", "each hand is paid x a WEEK (0 to 9; else 1)");
        price('P', 2, 1);
        says("Terms 1", "each of work that is SHORT costs x (0 to 9; else 1)");
        price('S', 3, 1);
        says("Terms 1", "letting go costs x a hand (else it may not be)");
        price('G', 4, NONE);
        says("Terms 1", "teaching costs x (else it may not be)");
        price('T', 5, NONE);
        says("Terms 1", "an AGENCY hand costs x a WEEK (else there are none)");
        price('A', 6, NONE);
    }

    private static void price(char letter, int what, int unsaid) {
        nextOfHouse("N1" + letter, FIGURES, true);
        due("about(" + what + "), none told", house("N1").about(what), unsaid);
        due("about(" + what + ")", house("N1" + letter + "0").about(what), 0);
        due("about(" + what + ")", house("N1" + letter + "9").about(what), 9);
    }

    private static void bonus() {
        says("Terms 1", "a BONUS of x for each hand that is there behind the last Sunday; chances to go are k fifths "
                + "less (0 to 5; never below 0) (else there is none)");
        nextOfHouse("N1B", FIGURES, false);
        nextOfHouse("N1B0", "012345", true);
        nextOfHouse("N1B9", "012345", true);
        due("about(7), none told", house("N1").about(7), NONE);
        due("about(7)", house("N1B05").about(7), 0);
        due("about(7)", house("N1B90").about(7), 9);
        agedBy("N1Q05Q13Q20B90", 5, 3, 0);
        agedBy("N1Q05Q13Q20B92", 3, 1, 0);
        agedBy("N1Q05Q13Q20B93", 2, 0, 0);
        agedBy("N1Q05Q13Q20B94", 1, 0, 0);
        agedBy("N1Q05Q13Q20B95", 0, 0, 0);
        // it may stand ahead of the chances, and it is less of those that are not told, too
        agedBy("N1B01Q05", 4, 0, 0);
    }

    private static void agedBy(String text, int first, int second, int third) {
        StillInAugust x = house(text);
        due("aged(0, 0) of " + text, x.aged(0, 0), first);
        due("aged(1, 0) of " + text, x.aged(1, 0), second);
        due("aged(2, 0) of " + text, x.aged(2, 0), third);
    }

    private static void firstFault() {
        says("Terms 1", "the place (from 0 on) of the first byte by which THE TEXT can be no HOUSE, "
                + "whatever came behind it");
        String[][] starts = {{"X", "0"}, {"N0", "1"}, {"N9", "1"}, {"N1N", "2"}, {"N1H5", "3"}, {"N1W1", "3"},
            {"N1W0x", "4"}, {"N1W00x", "5"}, {"N1O05", "4"}, {"N1Q3", "3"}, {"N1Q06", "4"}, {"N1D3", "3"},
            {"N1B96", "4"}, {"N1H1H", "4"}, {"N1W012W", "6"}, {"N1L", "2"}, {"N11", "2"}, {"N1h", "2"}};
        for (String[] start : starts) {
            for (String behind : new String[] {"", "0", "N1", "H1", "X", "00"}) {
                faultOf(start[0] + behind, false, Integer.parseInt(start[1]));
            }
        }
    }

    private static void lengthSetAside() {
        says("Terms 1", "(its length set aside)");
        String full = "N5W000W100W200W300W400O00O10O20O30O40Q00Q10Q20D00D10D20P0S0G0";
        // with one more byte there is no room for what must come behind it: that is no fault of that byte
        faultOf(full + "T0A", false, 64);
        faultOf(full + "T0B", false, 64);
        faultOf(full + "T0H", false, 64);
        // but a part told already is one
        faultOf(full + "T0Q", false, 63);
        StillInAugust x = told(full + "T0A");
        due("make(), it is not at its end", x.make(), STATE);
    }

    private static void notAtItsEnd() {
        says("Terms 1", "its length, if it is only not at its end; NONE: none");
        String house = "N2H1W012O13Q25D29P1S1G1T1A1B55";
        String whole = "|2|4|8|11|14|17|19|21|23|25|27|30|";
        for (int length = 0; length <= house.length(); length++) {
            boolean isWhole = whole.contains("|" + length + "|");
            faultOf(house.substring(0, length), false, isWhole ? NONE : length);
            due("make()", told(house.substring(0, length)).make(), isWhole ? 2 : STATE);
        }
        String rule = "0413223140L2";
        for (int length = 0; length <= rule.length(); length++) {
            faultOf(rule.substring(0, length), true, length == rule.length() ? NONE : length);
        }
    }

    private static void firstHouse() {
        says("Terms 1", "At first THE HOUSE is N1");
        StillInAugust x = new StillInAugust();
        StillInAugust made = house("N1");
        for (int what = 0; what < 8; what++) {
            due("about(" + what + ")", x.about(what), made.about(what));
        }
        due("week(0, 0)", x.week(0, 0), 0);
        due("week(0, 1)", x.week(0, 1), 1);
        due("week(1, 0)", x.week(1, 0), UNKNOWN);
        due("count(0): no text told it", x.count(0), 0);
        sunday(x, 200, 10, 8, 25);
        best(x, 0, 0, 0, 0, 1);
    }

    private static void rulesTold() {
        says("Terms 1", "none or more EXCEPTIONS (two figures: a WEEK 0 to 4 and a LEVEL 0 to 4; no WEEK twice), "
                + "then the letter L and a LEVEL 0 to 4");
        nextOfRule("", "01234L", false);
        nextOfRule("4", "01234", false);
        nextOfRule("40", "0123L", false);
        nextOfRule("2014", "034L", false);
        nextOfRule("00112233", "4L", false);
        nextOfRule("0011223344", "L", false);
        nextOfRule("L", "01234", true);
        nextOfRule("0011223344L", "01234", true);
        says("Terms 1", "A RULE is a TEXT");
        // nothing may come behind its end
        nextOfRule("L0", "", false);
        nextOfRule("00L4", "", false);
        nextOfRule("0011223344L0", "", false);
    }

    private static void ruleFaultLikewise() {
        says("Terms 1", "FAULT likewise");
        String[][] starts = {{"5", "0"}, {"N", "0"}, {"l", "0"}, {"05", "1"}, {"0L", "1"}, {"000", "2"},
            {"L5", "1"}, {"LL", "1"}, {"L0L", "2"}, {"L00", "2"}, {"00112233440", "10"}, {"0011L2L", "6"}};
        for (String[] start : starts) {
            for (String behind : new String[] {"", "0", "L0", "X"}) {
                faultOf(start[0] + behind, true, Integer.parseInt(start[1]));
            }
        }
    }

    private static void firstRules() {
        says("Terms 1", "RULES 0 to 2 are L0 at first");
        StillInAugust x = new StillInAugust();
        for (int rule = 0; rule <= 2; rule++) {
            for (int week = 0; week <= 4; week++) {
                due("level(" + rule + ", " + week + ")", x.level(rule, week), 0);
            }
        }
    }

    private static void newObject() {
        says("Promise 1", "One WEEK, nobody there");
        StillInAugust x = new StillInAugust();
        due("about(0)", x.about(0), 1);
        live(x, 0, 0, 0, 0, 0);
        due("gone(0), no MONDAY was", x.gone(0), STATE);
        due("again(0), none was kept", x.again(0), STATE);
        due("again(1), none was kept", x.again(1), STATE);
        due("count(1)", x.count(1), 0);
        due("act(0)", x.act(0), 0);
        due("gone(0)", x.gone(0), 0);
        live(x, 1, 0, 0, 0, 0);
    }

    private static void faultsAsked() {
        says("Promise 4", "FAULT of a HOUSE (rule = false), of a RULE; NONE");
        due("fault(false), empty", new StillInAugust().fault(false), 0);
        due("fault(true), empty", new StillInAugust().fault(true), 0);
        StillInAugust x = told("N1");
        due("fault(false) of N1", x.fault(false), NONE);
        due("fault(true) of N1", x.fault(true), 0);
        text(x, "L1");
        due("fault(false) of L1", x.fault(false), 0);
        due("fault(true) of L1", x.fault(true), NONE);
        text(x, "N2W000");
        // what was asked before leaves no trace: no WEEK is told of twice
        due("fault(false)", x.fault(false), NONE);
        due("fault(false), again", x.fault(false), NONE);
        due("about(0): nothing is made by it", x.about(0), 1);
        text(x, "04L1");
        due("fault(true)", x.fault(true), NONE);
        due("fault(true), again", x.fault(true), NONE);
        due("level(0, 0): it is no rule yet", x.level(0, 0), 0);
    }

    private static void makeRefused() {
        says("Promise 5", "STATE: a FAULT");
        due("make(), empty", new StillInAugust().make(), STATE);
        StillInAugust x = house("N3H4P7");
        for (String text : new String[] {"", "N", "N0", "N6", "L0", "N1H", "N1H5", "N2W02", "N1P1P", "N5W500"}) {
            text(x, text);
            due("make() of " + text, x.make(), STATE);
            due("about(0) behind " + text, x.about(0), 3);
            due("about(1) behind " + text, x.about(1), 4);
            due("about(2) behind " + text, x.about(2), 7);
        }
    }

    private static void madeAnew() {
        says("Promise 5", "THE TEXT (that stays as it is) is THE HOUSE (RULES, THE ROW stay; what was kept is gone): "
                + "how many WEEKS");
        StillInAugust x = new StillInAugust();
        text(x, LONGEST);
        due("make()", x.make(), 5);
        due("count(0), as it was", x.count(0), 64);
        due("make(), once more", x.make(), 5);
        rule(x, 2, "41L4");
        x.tell(400, 0);
        x.act(400);
        x.keep(0);
        x.keep(1);
        text(x, "N1");
        due("make()", x.make(), 1);
        due("fault(false), as it was", x.fault(false), NONE);
        due("level(2, 4)", x.level(2, 4), 1);
        due("level(2, 0)", x.level(2, 0), 4);
        due("count(1)", x.count(1), 1);
        due("again(0)", x.again(0), STATE);
        due("again(1)", x.again(1), STATE);
        live(x, 0, 0, 0, 0, 0);
        // what the new text does not tell is as if it were never told
        int[] about = {1, 2, 1, 1, NONE, NONE, NONE, NONE};
        for (int what = 0; what < 8; what++) {
            due("about(" + what + ")", x.about(what), about[what]);
        }
        due("week(0, 0)", x.week(0, 0), 0);
        due("week(0, 1)", x.week(0, 1), 1);
        due("aged(0, 0)", x.aged(0, 0), 1);
        due("aged(0, 1)", x.aged(0, 1), 4);
    }

    private static void reckonedAnew() {
        says("Promise 5", "is THE HOUSE");
        StillInAugust x = house("N1W009O00");
        best(x, 0, 0, 0, 9, 1);
        without(x, 15, 9, 1);
        mean(x, 0, 0, 0, 0, 9, 1);
        sunday(x, 100, 10, 4, 5);
        due("shape(0)", x.shape(0), 0);
        make(x, "N1W004Q00");
        best(x, 0, 0, 0, 1, 1);
        without(x, 15, 1, 1);
        mean(x, 0, 0, 0, 0, 4, 1);
        sunday(x, 100, 10, 1, 1);
        due("shape(0)", x.shape(0), 1);
        text(x, "N1W099");
        // a text alone is no house yet
        due("fault(false)", x.fault(false), NONE);
        best(x, 0, 0, 0, 1, 1);
        due("week(0, 0)", x.week(0, 0), 4);
    }

    private static void rulesMade() {
        says("Promise 6", "THE TEXT is a RULE: how many EXCEPTIONS");
        StillInAugust x = new StillInAugust();
        String[] texts = {"L4", "00L4", "0041L4", "004122L4", "00412213L4", "0041221334L4"};
        for (int exceptions = 0; exceptions <= 5; exceptions++) {
            text(x, texts[exceptions]);
            due("rule(1) of " + texts[exceptions], x.rule(1), exceptions);
            int[] levels = {0, 3, 2, 4, 1};
            int[] from = {1, 4, 3, 5, 2};
            for (int week = 0; week < 5; week++) {
                due("level(1, " + week + ") of " + texts[exceptions], x.level(1, week),
                        exceptions >= from[week] ? levels[week] : 4);
            }
        }
        due("level(0, 3), another", x.level(0, 3), 0);
        due("level(2, 3), another", x.level(2, 3), 0);
    }

    private static void rulesRefused() {
        says("Promise 6", "UNKNOWN; STATE: a FAULT");
        StillInAugust x = told("L3");
        each("rule(n)", x::rule, UNKNOWN, -1, 3, 4, LEAST, MOST);
        text(x, "L5");
        each("rule(n), with a FAULT", x::rule, UNKNOWN, -1, 3);
        for (String text : new String[] {"", "0", "00", "L", "L5", "N1", "L00", "0000L1", "50L1"}) {
            text(x, text);
            each("rule(n) of " + text, x::rule, STATE, 0, 1, 2);
            each("level(n, 0) behind " + text, n -> x.level(n, 0), 0, 0, 1, 2);
        }
    }

    private static void levelsAsked() {
        says("Promise 7", "The LEVEL of a RULE in a WEEK (0 to 4). UNKNOWN");
        StillInAugust x = new StillInAugust();
        rule(x, 0, "L4");
        rule(x, 2, "0041L2");
        // a rule has five WEEKS, however many the house has
        each("level(0, n)", n -> x.level(0, n), 4, 0, 1, 2, 3, 4);
        due("level(2, 0)", x.level(2, 0), 0);
        due("level(2, 4)", x.level(2, 4), 1);
        each("level(0, n)", n -> x.level(0, n), UNKNOWN, -1, 5, LEAST, MOST);
        each("level(n, 0)", n -> x.level(n, 0), UNKNOWN, -1, 3, LEAST, MOST);
        // the last WEEK of a rule is not the first of the next
        due("level(1, -1)", x.level(1, -1), UNKNOWN);
        due("level(1, 5)", x.level(1, 5), UNKNOWN);
        due("level(-1, 5)", x.level(-1, 5), UNKNOWN);
    }

    private static void weeksAsked() {
        says("Promise 8", "What a WEEK wants (what = 0), who OFFER (1). UNKNOWN; OUTSIDE");
        for (int w = 1; w <= 5; w++) {
            int last = w - 1;
            StillInAugust x = house("N" + w + "W" + last + "98O" + last + "3");
            due("week(last, 0)", x.week(last, 0), 98);
            due("week(last, 1)", x.week(last, 1), 3);
            each("week(n, 0)", n -> x.week(n, 0), UNKNOWN, w, w + 1, -1, LEAST, MOST);
            each("week(n, 1)", n -> x.week(n, 1), UNKNOWN, w, -1);
            each("week(last, n)", n -> x.week(last, n), OUTSIDE, -1, 2, LEAST, MOST);
            each("week(w, n)", n -> x.week(last + 1, n), UNKNOWN, -1, 2);
        }
    }

    private static void agesAsked() {
        says("Promise 9", "Of an AGE (0 to 2) fifths by which it goes, the BONUS counted (what = 0), "
                + "what it DOES (1). OUTSIDE");
        StillInAugust x = house("N1Q04Q15Q20D01D15D29B01");
        due("aged(0, 0)", x.aged(0, 0), 3);
        due("aged(2, 0)", x.aged(2, 0), 0);
        due("aged(0, 1)", x.aged(0, 1), 1);
        due("aged(2, 1)", x.aged(2, 1), 9);
        each("aged(n, 0)", n -> x.aged(n, 0), OUTSIDE, -1, 3, LEAST, MOST);
        each("aged(n, 1)", n -> x.aged(n, 1), OUTSIDE, -1, 3, LEAST, MOST);
        each("aged(0, n)", n -> x.aged(0, n), OUTSIDE, -1, 2, LEAST, MOST);
        each("aged(2, n)", n -> x.aged(2, n), OUTSIDE, -1, 2, LEAST, MOST);
    }

    private static void aboutAsked() {
        says("Promise 10", "WEEKS (0), HOOKS (1), pay (2), S (3), G (4), T (5), A (6), the BONUS (7); "
                + "NONE: it does not have it. OUTSIDE");
        StillInAugust x = house("N4H3P9S8G7T6A5B41");
        int[] about = {4, 3, 9, 8, 7, 6, 5, 4};
        for (int what = 0; what < 8; what++) {
            due("about(" + what + ")", x.about(what), about[what]);
        }
        each("about(n)", x::about, OUTSIDE, -1, 8, LEAST, MOST);
        each("about(n), it does not have it", house("N1")::about, NONE, 4, 5, 6, 7);
        each("about(n), it has it for 0", house("N1G0T0A0B00")::about, 0, 4, 5, 6, 7);
        each("about(n), told as 0", house("N1P0S0")::about, 0, 2, 3);
    }

    public static void main(String[] args) {
        textIsBytes();
        bytesWritten();
        lowestBytes();
        signOfWritten();
        writtenTooLong();
        wiped();
        partsOnce();
        weeksOfHouse();
        hooks();
        wants();
        offers();
        goes();
        does();
        pays();
        bonus();
        firstFault();
        lengthSetAside();
        notAtItsEnd();
        firstHouse();
        rulesTold();
        ruleFaultLikewise();
        firstRules();
        newObject();
        faultsAsked();
        makeRefused();
        madeAnew();
        reckonedAnew();
        rulesMade();
        rulesRefused();
        levelsAsked();
        weeksAsked();
        agesAsked();
        aboutAsked();
        end();
    }
}
