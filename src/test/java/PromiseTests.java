/** Promise by promise: ordinary calls, edges and refusals, with answers reckoned by hand. */
public final class PromiseTests extends Checks {
    private static void newObject() {
        promise(1);
        StillInAugust x = new StillInAugust();
        live(x, 0, 0, 0, 0, 0);
        int[] about = {1, 2, 1, 1, NONE, NONE, NONE, NONE};
        for (int what = 0; what < about.length; what++) {
            due("about(" + what + ")", x.about(what), about[what]);
        }
        int[] counts = {0, 0, 0, 1};
        for (int what = 0; what < counts.length; what++) {
            due("count(" + what + ")", x.count(what), counts[what]);
        }
        for (int rule = 0; rule < 3; rule++) {
            for (int week = 0; week < 5; week++) {
                due("level(" + rule + ", " + week + ")", x.level(rule, week), 0);
            }
        }
        for (int age = 0; age < 3; age++) {
            due("aged(" + age + ", 0)", x.aged(age, 0), 1);
            due("aged(" + age + ", 1)", x.aged(age, 1), 4);
        }
        due("judge()", x.judge(), NONE);
        due("again(0)", x.again(0), STATE);
        due("again(1)", x.again(1), STATE);
    }

    private static void writes() {
        promise(2);
        StillInAugust x = new StillInAugust();
        due("write(0)", x.write(0, 1), OUTSIDE);
        due("write(9)", x.write(9, 1), OUTSIDE);
        due("write(-1)", x.write(-1, 1), OUTSIDE);
        due("write(min)", x.write(Integer.MIN_VALUE, 1), OUTSIDE);
        due("count(0)", x.count(0), 0);
        due("write(2)", x.write(2, 0x7FFFFFFFFFFF4E33L), 2);
        due("make()", x.make(), 3);
        due("write(2), negative above", x.write(2, -0x10000L + 0x4834), 4);
        due("make()", x.make(), 3);
        due("about(1)", x.about(1), 4);
        x.wipe();
        for (int i = 1; i <= 7; i++) {
            due("write(8)", x.write(8, -1L), 8 * i);
        }
        due("write(5)", x.write(5, 0), 61);
        due("write(4), too long", x.write(4, 0), FULL);
        due("count(0)", x.count(0), 61);
        due("write(3)", x.write(3, 0), 64);
        due("write(1), full", x.write(1, 0), FULL);
        due("write(9), full", x.write(9, 0), OUTSIDE);
        due("count(0)", x.count(0), 64);
    }

    private static void wipes() {
        promise(3);
        StillInAugust x = new StillInAugust();
        due("wipe()", x.wipe(), 0);
        text(x, "N4X");
        due("wipe()", x.wipe(), 3);
        due("wipe()", x.wipe(), 0);
        due("count(0)", x.count(0), 0);
        due("fault(false)", x.fault(false), 0);
        text(x, "N4");
        due("fault(false), nothing of the old", x.fault(false), NONE);
    }

    private static void houseFault(String text, int want) {
        StillInAugust x = new StillInAugust();
        text(x, text);
        due("fault(false) of " + text, x.fault(false), want);
        due("count(0) of " + text, x.count(0), text.length());
        due("about(0) behind fault of " + text, x.about(0), 1);
    }

    private static void ruleFault(String text, int want) {
        StillInAugust x = new StillInAugust();
        text(x, text);
        due("fault(true) of " + text, x.fault(true), want);
        due("level(0, 0) behind fault of " + text, x.level(0, 0), 0);
    }

    private static void houseFaults() {
        promise(4);
        String[] good = {"N1", "N5", RICH, SMALL, "N5W499O44", "N1H1H".substring(0, 4), "N1B05", "N1G9T9A9S9P9",
            "N2W000W199O10O04", "N1Q05Q15Q25D00D19D20"};
        for (String text : good) {
            houseFault(text, NONE);
        }
        houseFault("", 0);
        houseFault("N", 1);
        houseFault("N0", 1);
        houseFault("N6", 1);
        houseFault("n1", 0);
        houseFault("H1", 0);
        houseFault("N1 ", 2);
        houseFault("N1h2", 2);
        houseFault("N1N2", 2);
        houseFault("N12", 2);
        houseFault("N1H", 3);
        houseFault("N1H0", 3);
        houseFault("N1H5", 3);
        houseFault("N1H1H", 4);
        houseFault("N1W", 3);
        houseFault("N1W1", 3);
        houseFault("N2W1", 4);
        houseFault("N2W12", 5);
        houseFault("N2W12X", 5);
        houseFault("N2W123W1", 7);
        houseFault("N2W123W0", 8);
        houseFault("N1W012W", 6);
        houseFault("N1O01O", 5);
        houseFault("N1O05", 4);
        houseFault("N1O1", 3);
        houseFault("N1Q06", 4);
        houseFault("N1Q3", 3);
        houseFault("N1Q00Q11Q22Q", 11);
        houseFault("N1D3", 3);
        houseFault("N1D0", 4);
        houseFault("N1D00D11D22D", 11);
        houseFault("N1D00D0", 6);
        for (String letter : new String[] {"P", "S", "G", "T", "A"}) {
            houseFault("N1" + letter, 3);
            houseFault("N1" + letter + "9", NONE);
            houseFault("N1" + letter + "9" + letter, 4);
            houseFault("N1" + letter + "x", 3);
        }
        houseFault("N1B", 3);
        houseFault("N1B1", 4);
        houseFault("N1B16", 4);
        houseFault("N1B15B", 5);
        houseFault("N1" + (char) 200, 2);
        houseFault("N1" + (char) 0, 2);
        houseFault("N5W000W100W200W300W400O00O10O20O30O40Q00Q10Q20D00D10D20P0S0G0T0A", 64);
        houseFault("N5W000W100W200W300W400O00O10O20O30O40Q00Q10Q20D00D10D20P0S0G0T0P", 63);
    }

    private static void ruleFaults() {
        promise(4);
        for (String text : new String[] {"L0", "L4", "00L0", "44332211" + "00L4", "40L0"}) {
            ruleFault(text, NONE);
        }
        ruleFault("", 0);
        ruleFault("L", 1);
        ruleFault("L5", 1);
        ruleFault("L0L", 2);
        ruleFault("L00", 2);
        ruleFault("0", 1);
        ruleFault("05", 1);
        ruleFault("0L", 1);
        ruleFault("00", 2);
        ruleFault("0000", 2);
        ruleFault("5", 0);
        ruleFault("l0", 0);
        ruleFault("0011223344", 10);
        ruleFault("00112233440", 10);
        ruleFault("0011223344L", 11);
        ruleFault("001", 3);
        ruleFault("00L1" + (char) 255, 4);
    }

    private static void makes() {
        promise(5);
        StillInAugust x = new StillInAugust();
        due("make() of nothing", x.make(), STATE);
        rule(x, 1, "12L3");
        text(x, RICH);
        x.tell(100, 0);
        due("make()", x.make(), 2);
        due("count(0)", x.count(0), 49);
        due("count(1)", x.count(1), 1);
        due("level(1, 1)", x.level(1, 1), 2);
        due("level(1, 0)", x.level(1, 0), 3);
        x.act(200);
        x.keep(0);
        x.keep(1);
        text(x, "N3H9");
        due("make() of a fault", x.make(), STATE);
        due("about(0)", x.about(0), 2);
        live(x, 0, 200, 0, 1, 22);
        due("again(1), still kept", x.again(1), 0);
        text(x, "N3");
        due("make()", x.make(), 3);
        live(x, 0, 0, 0, 0, 0);
        due("again(0), gone", x.again(0), STATE);
        due("again(1), gone", x.again(1), STATE);
        due("keep(0)", x.keep(0), 1);
        due("about(7), not of the old", x.about(7), NONE);
        due("aged(0, 0), not of the old", x.aged(0, 0), 1);
        due("week(1, 1), not of the old", x.week(1, 1), 1);
        due("week(1, 0), not of the old", x.week(1, 0), 0);
        best(x, 0, 0, 0, 0, 1);
        make(x, SMALL);
        best(x, 0, 0, 0, 17, 5);
        without(x, 15, 17, 5);
        make(x, "N1W009O00");
        best(x, 0, 0, 0, 9, 1);
        without(x, 15, 9, 1);
    }

    private static void rules() {
        promise(6);
        StillInAugust x = new StillInAugust();
        due("rule(3)", x.rule(3), UNKNOWN);
        due("rule(-1)", x.rule(-1), UNKNOWN);
        due("rule(0) of nothing", x.rule(0), STATE);
        text(x, "L2");
        due("rule(0)", x.rule(0), 0);
        text(x, "0011223344L2");
        due("rule(2)", x.rule(2), 5);
        due("level(2, 0)", x.level(2, 0), 0);
        due("level(2, 4)", x.level(2, 4), 4);
        text(x, "34L1");
        due("rule(2)", x.rule(2), 1);
        due("count(0)", x.count(0), 4);
        due("level(2, 4), not of the old", x.level(2, 4), 1);
        due("level(2, 3)", x.level(2, 3), 4);
        text(x, "00L");
        due("rule(2)", x.rule(2), STATE);
        due("level(2, 0), as it was", x.level(2, 0), 1);
        due("level(0, 0), of another rule", x.level(0, 0), 2);
        due("level(1, 0), of another rule", x.level(1, 0), 0);
    }

    private static void levels() {
        promise(7);
        StillInAugust x = new StillInAugust();
        rule(x, 1, "41L3");
        due("level(1, 4)", x.level(1, 4), 1);
        due("level(1, 3), beyond the house", x.level(1, 3), 3);
        due("level(1, 5)", x.level(1, 5), UNKNOWN);
        due("level(1, -1)", x.level(1, -1), UNKNOWN);
        due("level(-1, 0)", x.level(-1, 0), UNKNOWN);
        due("level(3, 0)", x.level(3, 0), UNKNOWN);
    }

    private static void whatIsTold() {
        StillInAugust x = house(RICH);
        promise(8);
        due("week(0, 0)", x.week(0, 0), 10);
        due("week(1, 0)", x.week(1, 0), 12);
        due("week(0, 1)", x.week(0, 1), 2);
        due("week(1, 1)", x.week(1, 1), 3);
        due("week(2, 0)", x.week(2, 0), UNKNOWN);
        due("week(-1, 5)", x.week(-1, 5), UNKNOWN);
        due("week(0, 2)", x.week(0, 2), OUTSIDE);
        due("week(0, -1)", x.week(0, -1), OUTSIDE);
        promise(9);
        int[][] aged = {{1, 2}, {0, 3}, {0, 5}};
        for (int age = 0; age < 3; age++) {
            due("aged(" + age + ", 0)", x.aged(age, 0), aged[age][0]);
            due("aged(" + age + ", 1)", x.aged(age, 1), aged[age][1]);
        }
        due("aged(-1, 0)", x.aged(-1, 0), OUTSIDE);
        due("aged(3, 1)", x.aged(3, 1), OUTSIDE);
        due("aged(0, 2)", x.aged(0, 2), OUTSIDE);
        due("aged(0, -1)", x.aged(0, -1), OUTSIDE);
        promise(10);
        int[] about = {2, 3, 2, 3, 4, 1, 6, 7};
        for (int what = 0; what < about.length; what++) {
            due("about(" + what + ")", x.about(what), about[what]);
        }
        due("about(8)", x.about(8), OUTSIDE);
        due("about(-1)", x.about(-1), OUTSIDE);
        make(x, "N1G0T0A0B00");
        for (int what = 4; what < 8; what++) {
            due("about(" + what + ") of 0", x.about(what), 0);
        }
    }

    private static void mayBe() {
        promise(11);
        StillInAugust x = house(RICH);
        int[][] cases = {
            {0, 0, 0, 1}, {0, 0, 200, 1}, {0, 0, 300, 0}, {1, 0, 300, 1}, {1, 1, 300, 0}, {1, 1, 200, 1},
            {1, 3, 3300, 1}, {0, 3, 4000, 0}, {0, 3, 3000, 1}, {0, 1, 110, 1}, {0, 101, 1010, 0},
            {0, 201, 1010, 1}, {0, 10, 110, 0}, {0, 1, 1110, 0}, {0, 101, 20, 0}, {0, 0, 2, 1}, {0, 0, 3, 0},
            {1, 0, 1, 0}, {0, 0, 10000, 0}, {0, 0, Integer.MAX_VALUE, 0}, {0, 111, 1100, 1}, {0, 111, 100, 0}};
        for (int[] c : cases) {
            due("may(" + c[0] + ", " + c[1] + ", " + c[2] + ")", x.may(c[0], c[1], c[2]), c[3]);
        }
        due("may(2, 999, -1)", x.may(2, 999, -1), UNKNOWN);
        due("may(-1, 0, 0)", x.may(-1, 0, 0), UNKNOWN);
        due("may(0, 999, 0)", x.may(0, 999, 0), OUTSIDE);
        due("may(0, 1000, 0)", x.may(0, 1000, 0), OUTSIDE);
        due("may(0, 4, 0)", x.may(0, 4, 0), OUTSIDE);
        due("may(0, 211, 0)", x.may(0, 211, 0), OUTSIDE);
        due("may(0, -1, 0)", x.may(0, -1, 0), OUTSIDE);
        due("may(0, 0, -1)", x.may(0, 0, -1), OUTSIDE);
        StillInAugust bare = house("N2H3");
        due("may(0, 101, 1000), no G", bare.may(0, 101, 1000), 0);
        due("may(0, 101, 10), no T", bare.may(0, 101, 10), 0);
        due("may(0, 101, 1), no A", bare.may(0, 101, 1), 0);
    }

    private static void thens() {
        promise(12);
        StillInAugust x = house(RICH);
        due("then(0, 101, 10)", x.then(0, 101, 10), 11);
        due("then(0, 111, 2200)", x.then(0, 111, 2200), 201);
        due("then(0, 111, 3000)", x.then(0, 111, 3000), 0);
        due("then(0, 12, 2000)", x.then(0, 12, 2000), 1);
        due("then(0, 1, 212)", x.then(0, 1, 212), 111);
        due("then(2, 0, 0)", x.then(2, 0, 0), UNKNOWN);
        due("then(0, 400, 9999)", x.then(0, 400, 9999), OUTSIDE);
        due("then(0, 0, -5)", x.then(0, 0, -5), OUTSIDE);
        due("then(0, 0, 300)", x.then(0, 0, 300), STATE);
    }

    private static void costsAndWork() {
        promise(13);
        StillInAugust x = house(RICH);
        due("costs(0, 101, 1, 11)", x.costs(0, 101, 1, 11), 17);
        due("costs(0, 101, 1, 10)", x.costs(0, 101, 1, 10), 17);
        due("costs(0, 101, 0, 1000)", x.costs(0, 101, 0, 1000), 21);
        due("costs(0, 3, 2, 0)", x.costs(0, 3, 2, 0), 18);
        due("costs(0, 0, 0, 0)", x.costs(0, 0, 0, 0), 30);
        due("costs(2, 0, 0, 0)", x.costs(2, 0, 0, 0), UNKNOWN);
        due("costs(0, 4, 0, 9999)", x.costs(0, 4, 0, 9999), OUTSIDE);
        due("costs(0, 0, 3, 9999)", x.costs(0, 0, 3, 9999), OUTSIDE);
        due("costs(0, 0, -1, 0)", x.costs(0, 0, -1, 0), OUTSIDE);
        due("costs(0, 0, 0, -1)", x.costs(0, 0, 0, -1), OUTSIDE);
        due("costs(0, 0, 0, 9999)", x.costs(0, 0, 0, 9999), STATE);
        promise(14);
        due("work(0, 101, 1, 11, false)", x.work(0, 101, 1, 11, false), 2);
        due("work(0, 101, 1, 11, true)", x.work(0, 101, 1, 11, true), 0);
        due("work(0, 3, 0, 0, true)", x.work(0, 3, 0, 0, true), 5);
        due("work(0, 3, 0, 0, false)", x.work(0, 3, 0, 0, false), 0);
        due("work(0, 2, 0, 0, true)", x.work(0, 2, 0, 0, true), 0);
        due("work(0, 2, 0, 0, false)", x.work(0, 2, 0, 0, false), 0);
        due("work(2, 0, 0, 0, true)", x.work(2, 0, 0, 0, true), UNKNOWN);
        due("work(0, 400, 0, 0, true)", x.work(0, 400, 0, 0, true), OUTSIDE);
        due("work(0, 0, 3, 0, false)", x.work(0, 0, 3, 0, false), OUTSIDE);
        due("work(0, 0, 0, -1, false)", x.work(0, 0, 0, -1, false), OUTSIDE);
        due("work(0, 0, 0, 300, false)", x.work(0, 0, 0, 300, false), STATE);
        StillInAugust bare = house("N1");
        due("work(0, 0, 1, 0, false), no A", bare.work(0, 0, 1, 0, false), OUTSIDE);
        due("costs(0, 0, 1, 0), no A", bare.costs(0, 0, 1, 0), OUTSIDE);
    }

    private static void sundays() {
        promise(15);
        StillInAugust x = house(RICH);
        sunday(x, 200, 20, 16, 25);
        sunday(x, 200, 10, 8, 25);
        sunday(x, 200, 0, 1, 25);
        sunday(x, 200, 2, 0, 1);
        sunday(x, 111, 12, 4, 5);
        sunday(x, 111, 2, 1, 5);
        sunday(x, 0, 0, 1, 1);
        for (int others : new int[] {-1, 5, 50, 100, 400, 999, 1000, Integer.MIN_VALUE, Integer.MAX_VALUE}) {
            sunday(x, 111, others, 0, 1);
        }
        sunday(x, 400, 0, OUTSIDE, OUTSIDE);
        sunday(x, -1, 0, OUTSIDE, OUTSIDE);
        sunday(x, 1000, 0, OUTSIDE, OUTSIDE);
        make(x, "N1H4Q02Q13Q24");
        // one of AGE 1 (stays by 2 fifths) or one of AGE 2 (by 1): 2/5 4/5 + 3/5 1/5
        sunday(x, 11, 1, 11, 25);
        sunday(x, 400, 40, 81, 625);
        sunday(x, 400, 20, 216, 625);
    }

    private static void takes() {
        promise(16);
        StillInAugust x = house(RICH);
        rule(x, 2, "13L2");
        due("takes(2, 0, 0)", x.takes(2, 0, 0), 2);
        due("takes(2, 1, 0)", x.takes(2, 1, 0), 3);
        due("takes(2, 1, 1)", x.takes(2, 1, 1), 2);
        due("takes(2, 1, 111)", x.takes(2, 1, 111), 0);
        due("takes(2, 0, 2)", x.takes(2, 0, 2), 0);
        due("takes(2, 0, 3)", x.takes(2, 0, 3), 0);
        due("takes(0, 0, 0)", x.takes(0, 0, 0), 0);
        rule(x, 0, "L4");
        due("takes(0, 0, 0), by OFFER", x.takes(0, 0, 0), 2);
        due("takes(0, 1, 10), by HOOKS", x.takes(0, 1, 10), 2);
        due("takes(3, 0, 0)", x.takes(3, 0, 0), UNKNOWN);
        due("takes(-1, 0, 0)", x.takes(-1, 0, 0), UNKNOWN);
        due("takes(0, 2, 999)", x.takes(0, 2, 999), UNKNOWN);
        due("takes(0, 0, 999)", x.takes(0, 0, 999), OUTSIDE);
    }

    private static void byARule() {
        StillInAugust x = house(SMALL);
        rule(x, 1, "L1");
        promise(17);
        mean(x, 0, 0, 0, 0, 10, 1);
        mean(x, 1, 0, 0, 0, 17, 5);
        mean(x, 1, 1, 10, 0, 1, 1);
        mean(x, 1, 1, 0, 0, 2, 1);
        mean(x, 3, 0, 0, 0, UNKNOWN, UNKNOWN);
        mean(x, 0, 2, 999, 0, UNKNOWN, UNKNOWN);
        mean(x, 0, -1, 0, 0, UNKNOWN, UNKNOWN);
        mean(x, 0, 0, 2, 0, OUTSIDE, OUTSIDE);
        mean(x, 0, 0, 0, 1, OUTSIDE, OUTSIDE);
        mean(x, 0, 0, 0, -1, OUTSIDE, OUTSIDE);
        promise(18);
        shortly(x, 1, 0, 1, 1);
        shortly(x, 1, 1, 2, 5);
        shortly(x, 1, 2, UNKNOWN, UNKNOWN);
        shortly(x, 3, 0, UNKNOWN, UNKNOWN);
        shortly(x, 0, -1, UNKNOWN, UNKNOWN);
        promise(19);
        idle(x, 1, 0, 0, 1);
        idle(x, 1, 1, 12, 5);
        idle(x, 1, 2, UNKNOWN, UNKNOWN);
        idle(x, -1, 0, UNKNOWN, UNKNOWN);
        promise(20);
        there(x, 1, 0, 0, 1, 1);
        there(x, 1, 0, 1, 0, 1);
        there(x, 1, 1, 1, 3, 5);
        there(x, 1, 1, 0, 2, 5);
        there(x, 1, 2, 1, 18, 25);
        there(x, 1, 2, 0, 7, 25);
        there(x, 1, 2, 4, 0, 1);
        there(x, 1, 3, 9, UNKNOWN, UNKNOWN);
        there(x, 3, 0, 0, UNKNOWN, UNKNOWN);
        there(x, 1, -1, 0, UNKNOWN, UNKNOWN);
        there(x, 1, 0, 5, OUTSIDE, OUTSIDE);
        there(x, 1, 0, -1, OUTSIDE, OUTSIDE);
        promise(21);
        due("cheapest()", x.cheapest(), 1);
        rule(x, 0, "L1");
        due("cheapest(), of like ones", x.cheapest(), 0);
        rule(x, 0, "L0");
        rule(x, 1, "L0");
        rule(x, 2, "L1");
        due("cheapest(), the last", x.cheapest(), 2);
    }

    private static void byARuleWithMeans() {
        promise(17);
        StillInAugust x = house("N1W009A3");
        mean(x, 0, 0, 0, 2, 7, 1);
        mean(x, 0, 0, 0, 3, OUTSIDE, OUTSIDE);
        make(x, SMALL + "B52");
        rule(x, 1, "L1");
        mean(x, 1, 0, 0, 0, 8, 1);
        mean(x, 0, 1, 10, 0, 6, 1);
        make(x, "N2A9W104");
        // agency hands are of one WEEK: by a rule nobody comes in the next
        mean(x, 0, 0, 0, 2, 22, 1);
    }

    private static void theBest() {
        promise(22);
        StillInAugust x = house(SMALL);
        best(x, 0, 0, 0, 17, 5);
        best(x, 1, 10, 0, 1, 1);
        best(x, 1, 0, 0, 2, 1);
        best(x, 2, 0, 0, UNKNOWN, UNKNOWN);
        best(x, -1, 999, 0, UNKNOWN, UNKNOWN);
        best(x, 0, 2, 0, OUTSIDE, OUTSIDE);
        best(x, 0, 0, 1, OUTSIDE, OUTSIDE);
        best(x, 0, 0, -1, OUTSIDE, OUTSIDE);
        promise(23);
        due("bestAct(0, 0, 0)", x.bestAct(0, 0, 0), 100);
        due("bestAct(1, 10, 0)", x.bestAct(1, 10, 0), 0);
        due("bestAct(1, 0, 0)", x.bestAct(1, 0, 0), 100);
        due("bestAct(2, 0, 0)", x.bestAct(2, 0, 0), UNKNOWN);
        due("bestAct(0, 11, 0)", x.bestAct(0, 11, 0), OUTSIDE);
        due("bestAct(0, 0, 1)", x.bestAct(0, 0, 1), OUTSIDE);
        make(x, "N1P0");
        due("bestAct(0, 0, 0), of like ones", x.bestAct(0, 0, 0), 0);
        make(x, "N1W004P4");
        due("bestAct(0, 0, 0), of like ones", x.bestAct(0, 0, 0), 0);
        make(x, "N1H1W009D09G2");
        due("bestAct(0, 1, 0), letting go", x.bestAct(0, 1, 0), 1100);
        best(x, 0, 1, 0, 3, 1);
        make(x, "N1H2W009O01D00D19D20T1");
        due("bestAct(0, 101, 0), teaching", x.bestAct(0, 101, 0), 10);
        due("bestAct(0, 1, 0), teaching", x.bestAct(0, 1, 0), 110);
        best(x, 0, 1, 0, 3, 1);
        make(x, "N2H1O00O10W109D29A1");
        due("bestAct(0, 0, 0), ordering", x.bestAct(0, 0, 0), 1);
        due("bestAct(1, 0, 1), not in the last", x.bestAct(1, 0, 1), 0);
        best(x, 0, 0, 0, 1, 1);
        best(x, 0, 0, 2, 3, 1);
        best(x, 1, 0, 0, 9, 1);
    }

    private static void shapes() {
        StillInAugust x = house("N2H2W008O02");
        promise(24);
        due("shape(0)", x.shape(0), 2);
        due("shape(1)", x.shape(1), 0);
        due("shape(2)", x.shape(2), UNKNOWN);
        due("shape(-1)", x.shape(-1), UNKNOWN);
        promise(25);
        due("against(0, 0)", x.against(0, 0), 0);
        due("against(0, 1)", x.against(0, 1), 0);
        due("against(0, 2)", x.against(0, 2), NONE);
        due("against(0, 4)", x.against(0, 4), NONE);
        due("against(1, 4)", x.against(1, 4), 0);
        due("against(2, 5)", x.against(2, 5), UNKNOWN);
        due("against(0, 5)", x.against(0, 5), OUTSIDE);
        due("against(0, -1)", x.against(0, -1), OUTSIDE);
        make(x, "N1H4W008O04D29");
        promise(24);
        due("shape(0), by no level", x.shape(0), NONE);
        promise(25);
        due("against(0, 2)", x.against(0, 2), 1);
        due("against(0, 1)", x.against(0, 1), 0);
        make(x, "N1H4W008O04D19");
        due("against(0, 2)", x.against(0, 2), 10);
    }

    private static void withouts() {
        promise(26);
        StillInAugust x = house("N1H1W009D09P0B90");
        without(x, 0, 36, 5);
        without(x, 8, 0, 1);
        without(x, 7, 36, 5);
        without(x, 16, OUTSIDE, OUTSIDE);
        without(x, -1, OUTSIDE, OUTSIDE);
        best(x, 0, 0, 0, 36, 5);
        make(x, "N2H1W009W109D09D10D20G1P0Q00Q10Q20");
        without(x, 0, 1, 1);
        without(x, 1, 9, 1);
        without(x, 14, 1, 1);
        make(x, "N3H2O10W209D00D19D20T0P0Q00Q10Q20");
        without(x, 0, 0, 1);
        without(x, 2, 9, 1);
        without(x, 13, 0, 1);
        make(x, "N2H1O00O10W109D29A1");
        without(x, 0, 1, 1);
        without(x, 4, 9, 1);
        without(x, 11, 1, 1);
        // without the bonus chances are as they were told: nobody stays for the second WEEK
        make(x, "N2H1O10W109D19P0Q05B05");
        without(x, 0, 0, 1);
        without(x, 8, 9, 1);
    }

    private static void lives() {
        StillInAugust x = house(RICH);
        promise(27);
        due("act(-1)", x.act(-1), OUTSIDE);
        due("act(300)", x.act(300), STATE);
        live(x, 0, 0, 0, 0, 0);
        promise(28);
        due("gone(0), no Monday", x.gone(0), STATE);
        due("gone(500), no Monday", x.gone(500), OUTSIDE);
        promise(27);
        due("act(202)", x.act(202), 22);
        promise(29);
        live(x, 0, 200, 0, 1, 22);
        due("live(5)", x.live(5), OUTSIDE);
        due("live(-1)", x.live(-1), OUTSIDE);
        promise(27);
        due("act(0), it was", x.act(0), STATE);
        promise(28);
        for (int gone : new int[] {-1, 445, 450, 5, 50, 500, 405, 1000, Integer.MIN_VALUE}) {
            due("gone(" + gone + ")", x.gone(gone), OUTSIDE);
        }
        due("gone(300)", x.gone(300), STATE);
        due("gone(10)", x.gone(10), STATE);
        due("gone(1)", x.gone(1), STATE);
        due("gone(444)", x.gone(444), STATE);
        live(x, 0, 200, 0, 1, 22);
        due("gone(100)", x.gone(100), 1);
        promise(29);
        live(x, 1, 10, 2, 0, 22);
        promise(27);
        due("act(1), in the last", x.act(1), STATE);
        due("act(0)", x.act(0), 14);
        live(x, 1, 10, 2, 1, 36);
        promise(30);
        due("keep(0)", x.keep(0), 1);
        promise(28);
        due("gone(0)", x.gone(0), 1);
        live(x, 2, 1, 0, 0, 43);
        due("gone(0), over", x.gone(0), STATE);
        promise(27);
        due("act(0), over", x.act(0), STATE);
        promise(28);
        x.again(0);
        due("gone(10), though it has no chance", x.gone(10), 0);
        live(x, 2, 0, 0, 0, 36);
    }

    private static void keeps() {
        StillInAugust x = house(RICH);
        promise(30);
        due("keep(2)", x.keep(2), UNKNOWN);
        due("keep(-1)", x.keep(-1), UNKNOWN);
        x.act(101);
        due("keep(1)", x.keep(1), 1);
        x.gone(0);
        due("keep(0)", x.keep(0), 1);
        x.act(0);
        promise(31);
        due("again(2)", x.again(2), UNKNOWN);
        due("again(-1)", x.again(-1), UNKNOWN);
        due("again(1)", x.again(1), 0);
        live(x, 0, 100, 0, 1, 26);
        due("gone(100)", x.gone(100), 0);
        live(x, 1, 0, 1, 0, 26);
        due("again(0)", x.again(0), 1);
        live(x, 1, 10, 1, 0, 26);
        due("again(1), once more", x.again(1), 0);
        live(x, 0, 100, 0, 1, 26);
        promise(30);
        due("keep(0), other was", x.keep(0), 0);
        due("again(0)", x.again(0), 0);
        due("keep(0), like was", x.keep(0), 0);
        promise(31);
        x.gone(0);
        x.act(0);
        x.gone(0);
        due("keep(1), over", x.keep(1), 0);
        x.again(0);
        due("again(1), over", x.again(1), 2);
        due("act(0), over", x.act(0), STATE);
    }

    private static void tells() {
        StillInAugust x = house(RICH);
        promise(32);
        due("tell(-1, 0)", x.tell(-1, 0), OUTSIDE);
        due("tell(10000, 0)", x.tell(10000, 0), OUTSIDE);
        for (int gone : new int[] {-1, 445, 450, 5, 50, 500}) {
            due("tell(0, " + gone + ")", x.tell(0, gone), OUTSIDE);
        }
        due("count(1)", x.count(1), 0);
        due("tell(9999, 444)", x.tell(9999, 444), 1);
        for (int i = 2; i <= 5; i++) {
            due("tell(0, 0)", x.tell(0, 0), i);
        }
        due("tell(0, 0), full", x.tell(0, 0), FULL);
        due("tell(0, 5), full", x.tell(0, 5), OUTSIDE);
        due("count(1)", x.count(1), 5);
        promise(33);
        due("untell()", x.untell(), 5);
        due("untell()", x.untell(), 0);
        due("count(1)", x.count(1), 0);
    }

    private static void judged(String house, int[][] told, int judge, int paid, long[] luck, int worst) {
        StillInAugust x = house(house);
        for (int[] week : told) {
            x.tell(week[0], week[1]);
        }
        promise(34);
        due("judge() " + house, x.judge(), judge);
        promise(35);
        due("paid() " + house, x.paid(), paid);
        promise(36);
        luck(x, luck[0], luck[1]);
        promise(37);
        due("worst() " + house, x.worst(), worst);
        live(x, 0, 0, 0, 0, 0);
        due("count(1)", x.count(1), told.length);
    }

    private static void notSo(String house, int[][] told, int week) {
        judged(house, told, week, STATE, new long[] {STATE, STATE}, STATE);
    }

    private static void judgements() {
        long[] sure = {1, 1};
        judged(RICH, new int[][] {}, NONE, 0, sure, NONE);
        judged(RICH, new int[][] {{202, 100}}, NONE, 22, new long[] {8, 25}, 0);
        judged(RICH, new int[][] {{202, 100}, {0, 0}}, NONE, 43, new long[] {8, 25}, 0);
        judged(RICH, new int[][] {{202, 200}, {0, 0}}, NONE, 22 + 12 + 6, new long[] {1, 25}, 0);
        // leaving is told by ages: one of AGE 1 and one of AGE 2 are not alike
        judged("N3H2O02Q00Q12Q23P0", new int[][] {{100, 0}, {100, 0}, {0, 10}}, NONE, 0,
                new long[] {12, 125}, NONE);
        judged("N3H2O02Q00Q12Q23P0", new int[][] {{100, 0}, {100, 0}, {0, 1}}, NONE, 0,
                new long[] {27, 125}, NONE);
        notSo(RICH, new int[][] {{300, 0}}, 0);
        notSo(RICH, new int[][] {{0, 1}}, 0);
        notSo(RICH, new int[][] {{202, 0}, {0, 10}}, 1);
        notSo(RICH, new int[][] {{200, 0}, {1, 0}}, 1);
        notSo(RICH, new int[][] {{200, 0}, {0, 0}, {0, 0}}, 2);
        notSo(RICH, new int[][] {{200, 0}, {0, 0}, {0, 0}, {0, 0}}, 2);
        notSo("N1Q05", new int[][] {{100, 0}}, 0);
        judged("N1Q05", new int[][] {{100, 100}}, NONE, 1, sure, NONE);
        judged("N2W005W105", new int[][] {{0, 0}, {0, 0}}, NONE, 10, sure, 0);
        judged("N3W105W206", new int[][] {{0, 0}, {0, 0}, {0, 0}}, NONE, 11, sure, 2);
        judged("N2W005S0", new int[][] {{0, 0}, {0, 0}}, NONE, 0, sure, NONE);
        // a teacher does no work, and agency hands do theirs
        judged("N3H2O02W209D00D11D24T2Q00Q10Q20A1P0", new int[][] {{100, 0}, {0, 0}, {110, 0}}, NONE, 10, sure, 2);
        judged("N3H2O02W209D00D11D24T2Q00Q10Q20A1P0", new int[][] {{100, 0}, {2, 0}, {110, 0}}, NONE, 4, sure, NONE);
        judged("N3H2O02W209D00D11D24T2Q00Q10Q20A1P0", new int[][] {{102, 0}, {0, 0}, {110, 0}}, NONE, 12, sure, 2);
    }

    /** Each of these calls judges by itself: no other was asked before. */
    private static void judgedUnasked() {
        StillInAugust x = house(RICH);
        promise(35);
        x.tell(202, 100);
        due("paid(), unasked", x.paid(), 22);
        x.tell(0, 0);
        promise(36);
        due("luck(true), unasked", x.luck(true), 8);
        x.untell();
        x.tell(200, 0);
        due("luck(false), unasked", x.luck(false), 25);
        due("luck(true), unasked", x.luck(true), 16);
        x.untell();
        promise(37);
        due("worst(), unasked", x.worst(), NONE);
        x.tell(0, 0);
        due("worst(), unasked", x.worst(), 0);
        x.untell();
        x.tell(300, 0);
        due("worst(), unasked", x.worst(), STATE);
        x.untell();
        promise(35);
        due("paid(), unasked", x.paid(), 0);
    }

    private static void rowBesideLive() {
        promise(34);
        StillInAugust x = house(RICH);
        x.act(100);
        x.tell(200, 0);
        due("judge(), from WEEK 0, nobody there", x.judge(), NONE);
        live(x, 0, 100, 0, 1, 26);
        make(x, "N1O01");
        due("judge(), by the house as it is", x.judge(), 0);
    }

    private static void counts() {
        promise(38);
        StillInAugust x = house(RICH);
        x.tell(0, 0);
        due("count(0)", x.count(0), 49);
        due("count(1)", x.count(1), 1);
        due("count(2)", x.count(2), 22);
        due("count(3)", x.count(3), 5);
        due("count(4)", x.count(4), OUTSIDE);
        due("count(-1)", x.count(-1), OUTSIDE);
        make(x, "N3O14");
        due("count(2)", x.count(2), 0);
        due("count(3)", x.count(3), 6);
    }

    public static void main(String[] args) {
        newObject();
        writes();
        wipes();
        houseFaults();
        ruleFaults();
        makes();
        rules();
        levels();
        whatIsTold();
        mayBe();
        thens();
        costsAndWork();
        sundays();
        takes();
        byARule();
        byARuleWithMeans();
        theBest();
        shapes();
        withouts();
        lives();
        keeps();
        tells();
        judgements();
        judgedUnasked();
        rowBesideLive();
        counts();
        end();
    }
}
