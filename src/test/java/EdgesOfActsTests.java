/** Hands, acts, a week and its Sunday (part 2 of the terms, promises 11 to 16): a test for each boundary named. */
public final class EdgesOfActsTests extends Checks {
    /** All means for nothing in three weeks, four hooks, four who offer. */
    private static final String FREE = "N3H4O04O14O24G0T0A0";
    /** Each price is another, and so is what each age does. */
    private static final String DEAR = "N2H4W099W199O04D01D12D23P5S7G3T9A8";

    private static void mayBe(StillInAugust x, int week, int hands, int want, int... acts) {
        each("may(" + week + ", " + hands + ", act)", act -> x.may(week, hands, act), want, acts);
    }

    private static void thenAre(StillInAugust x, int hands, int act, int want) {
        due("then(0, " + hands + ", " + act + ")", x.then(0, hands, act), want);
        due("may(0, " + hands + ", " + act + ")", x.may(0, hands, act), want == STATE ? 0 : 1);
    }

    private static void handsAsNumber() {
        says("Terms 2", "HANDS are told as a number: 100 times those of AGE 0, 10 times those of AGE 1, "
                + "and those of AGE 2 (no more than HOOKS together)");
        for (int hooks = 1; hooks <= 4; hooks++) {
            StillInAugust x = house("N1H" + hooks);
            for (int hands = -20; hands <= 1120; hands++) {
                x = hands % 128 == 0 ? house("N1H" + hooks) : x;
                boolean are = hands >= 0 && hands < 1000 && hands / 100 + hands / 10 % 10 + hands % 10 <= hooks;
                due("may(0, " + hands + ", 0) with " + hooks + " hooks", x.may(0, hands, 0), are ? 1 : OUTSIDE);
            }
        }
    }

    private static void handsOfEachCall() {
        says("Terms 2", "(no more than HOOKS together)");
        StillInAugust x = house("N2H3");
        int[] not = {-1, 4, 40, 400, 13, 112, 310, 1000, 999, LEAST, MOST};
        each("then(0, n, 0)", n -> x.then(0, n, 0), OUTSIDE, not);
        each("costs(0, n, 0, 0)", n -> x.costs(0, n, 0, 0), OUTSIDE, not);
        each("work(0, n, 0, 0)", n -> x.work(0, n, 0, 0, true), OUTSIDE, not);
        each("takes(0, 0, n)", n -> x.takes(0, 0, n), OUTSIDE, not);
        each("bestAct(0, n, 0)", n -> x.bestAct(0, n, 0), OUTSIDE, not);
        refusedFractions("sunday(n, 0)", (n, upper) -> x.sunday(n, 0, upper), OUTSIDE, not);
        refusedFractions("mean(0, 0, n, 0)", (n, upper) -> x.mean(0, 0, n, 0, upper), OUTSIDE, not);
        refusedFractions("best(0, n, 0)", (n, upper) -> x.best(0, n, 0, upper), OUTSIDE, not);
        for (int full : new int[] {3, 30, 300, 111, 21, 102}) {
            due("then(1, " + full + ", 0)", x.then(1, full, 0), full);
            due("costs(1, " + full + ", 0, 0)", x.costs(1, full, 0, 0), 3);
            due("work(1, " + full + ", 0, 0)", x.work(1, full, 0, 0, true), 12);
            due("takes(0, 1, " + full + ")", x.takes(0, 1, full), 0);
            due("bestAct(1, " + full + ", 0)", x.bestAct(1, full, 0), 0);
            sunday(x, full, 0, 1, 125);
            mean(x, 0, 1, full, 0, 3, 1);
            best(x, 1, full, 0, 3, 1);
        }
    }

    private static void coming() {
        says("Terms 2", "COMING (0 to 2; 0, where there are none) are AGENCY hands of this WEEK");
        comingIs(house("N2A0"), 0, 2);
        comingIs(house("N2A0"), 1, 2);
        comingIs(house("N2"), 0, 0);
        comingIs(house("N2"), 1, 0);
        comingIs(house("N1A9"), 0, 2);
    }

    private static void comingIs(StillInAugust x, int week, int most) {
        int price = Math.max(0, x.about(6));
        for (int coming = 0; coming <= most; coming++) {
            due("costs(coming)", x.costs(week, 0, coming, 0), coming * price);
            due("work(coming)", x.work(week, 0, coming, 0, true), 4 * coming);
            due("bestAct(coming)", x.bestAct(week, 0, coming), 0);
            mean(x, 0, week, 0, coming, coming * price, 1);
            best(x, week, 0, coming, coming * price, 1);
        }
        int[] not = {-1, most + 1, 3, LEAST, MOST};
        each("costs(coming)", n -> x.costs(week, 0, n, 0), OUTSIDE, not);
        each("work(coming)", n -> x.work(week, 0, n, 0, false), OUTSIDE, not);
        each("bestAct(coming)", n -> x.bestAct(week, 0, n), OUTSIDE, not);
        refusedFractions("mean(coming)", (n, upper) -> x.mean(0, week, 0, n, upper), OUTSIDE, not);
        refusedFractions("best(coming)", (n, upper) -> x.best(week, 0, n, upper), OUTSIDE, not);
    }

    private static void lettingGo() {
        says("Terms 2", "g hands are let go (those of AGE 0 first, then of 1, then of 2)");
        StillInAugust x = house("N1H4G0");
        int[] left = {112, 12, 2, 1, 0, STATE, STATE};
        for (int g = 0; g < left.length; g++) {
            thenAre(x, 112, 1000 * g, left[g]);
        }
        thenAre(x, 211, 1000, 111);
        thenAre(x, 211, 2000, 11);
        thenAre(x, 22, 3000, 1);
        thenAre(x, 400, 4000, 0);
        thenAre(x, 400, 5000, STATE);
        thenAre(x, 1, 1000, 0);
        thenAre(x, 1, 2000, STATE);
        thenAre(x, 0, 1000, STATE);
    }

    private static void takingOn() {
        says("Terms 2", "then t are taken on (no more than OFFER, or than HOOKS leave room for; they are of AGE 0)");
        for (int k = 0; k <= 4; k++) {
            StillInAugust x = house("N1H4O0" + k);
            thenAre(x, 0, 100 * k, 100 * k);
            thenAre(x, 0, 100 * (k + 1), STATE);
            thenAre(x, 0, 900, STATE);
        }
        for (int h = 1; h <= 4; h++) {
            StillInAugust x = house("N1O04H" + h);
            for (int there = 0; there <= h; there++) {
                thenAre(x, 10 * there, 100 * (h - there), 10 * there + 100 * (h - there));
                thenAre(x, 10 * there, 100 * (h - there + 1), STATE);
            }
        }
    }

    private static void takingOnBehindLettingGo() {
        says("Terms 2", "HOOKS leave room for");
        StillInAugust x = house("N1H2O02G1");
        thenAre(x, 2, 100, STATE);
        thenAre(x, 2, 1100, 101);
        thenAre(x, 2, 1200, STATE);
        thenAre(x, 2, 2200, 200);
        thenAre(x, 200, 2200, 200);
        thenAre(x, 200, 2300, STATE);
    }

    private static void teaching() {
        says("Terms 2", "by e = 1, one of AGE 0 is taught: it is of AGE 1 at once, and a hand of AGE 2 does no work "
                + "in this WEEK (there must be both)");
        StillInAugust x = house(FREE);
        thenAre(x, 101, 10, 11);
        thenAre(x, 301, 10, 211);
        thenAre(x, 1, 110, 11);
        for (int hands : new int[] {0, 1, 4, 10, 11, 22, 100, 110, 400}) {
            thenAre(x, hands, 10, STATE);
        }
        thenAre(x, 10, 110, STATE);
        // who is let go can not be taught, nor teach
        thenAre(x, 101, 1010, STATE);
        thenAre(x, 201, 1010, 11);
        thenAre(x, 101, 1110, 11);
        thenAre(x, 101, 2110, STATE);
        for (int e = 2; e <= 9; e++) {
            thenAre(x, 202, 10 * e, STATE);
        }
    }

    private static void teacherDoesNoWork() {
        says("Terms 2", "a hand of AGE 2 does no work in this WEEK");
        StillInAugust x = house(DEAR);
        due("work(0, 101, 0, 10)", x.work(0, 101, 0, 10, false), 97);
        due("work(0, 102, 0, 10)", x.work(0, 102, 0, 10, false), 94);
        due("work(0, 101, 2, 10): agency hands do theirs", x.work(0, 101, 2, 10, false), 91);
        due("work(0, 101, 0, 0)", x.work(0, 101, 0, 0, false), 95);
    }

    private static void ordering() {
        says("Terms 2", "o AGENCY hands (0 to 2) are ordered for the next WEEK (not in the last one)");
        for (int week = 0; week < 2; week++) {
            mayBe(house(FREE), week, 0, 1, 0, 1, 2);
            mayBe(house(FREE), week, 0, 0, 3, 4, 5, 6, 7, 8, 9);
        }
        mayBe(house(FREE), 2, 0, 1, 0);
        mayBe(house(FREE), 2, 0, 0, 1, 2, 3, 9);
        // the only WEEK is the last one
        mayBe(house("N1A1"), 0, 0, 0, 1, 2);
        mayBe(house("N5A1"), 3, 0, 1, 1, 2);
        mayBe(house("N5A1"), 4, 0, 0, 1, 2);
    }

    private static void onlyNothing() {
        says("Terms 2", "What may not be (G, T, A) is only 0");
        mayBe(house("N2H4O04"), 0, 101, 0, 1000, 2000, 10, 1, 2, 1010, 11, 1001);
        mayBe(house("N2H4O04"), 0, 101, 1, 0, 100, 200);
        mayBe(house("N2H4O04T9A9"), 0, 101, 0, 1000, 1100);
        mayBe(house("N2H4O04T9A9"), 0, 101, 1, 10, 1, 12);
        mayBe(house("N2H4O04G9A9"), 0, 101, 0, 10, 110);
        mayBe(house("N2H4O04G9A9"), 0, 101, 1, 1000, 2, 2001);
        mayBe(house("N2H4O04G9T9"), 0, 101, 0, 1, 2, 11);
        mayBe(house("N2H4O04G9T9"), 0, 101, 1, 1000, 10, 1110);
        // what costs nothing is not what may not be
        mayBe(house("N2H4O04G0T0A0"), 0, 101, 1, 1000, 10, 1, 2, 1111);
    }

    private static void shortOrIdle() {
        says("Terms 2", "SHORT is what the WEEK wants less that, if it is less; "
                + "IDLE that less what it wants, if it is more");
        StillInAugust x = house("N2H4W012D03D14D25A1");
        worked(x, 0, 400, 0, 0, 0);
        worked(x, 0, 310, 0, 0, 1);
        worked(x, 0, 201, 0, 1, 0);
        worked(x, 0, 0, 0, 12, 0);
        worked(x, 0, 4, 0, 0, 8);
        worked(x, 0, 0, 2, 2, 0);
        worked(x, 0, 4, 2, 0, 18);
        worked(x, 1, 0, 0, 0, 0);
        worked(x, 1, 100, 0, 0, 3);
        StillInAugust edge = house("N2H4W099D00D29A1");
        worked(edge, 0, 400, 0, 99, 0);
        worked(edge, 0, 4, 2, 45, 0);
        worked(edge, 1, 4, 2, 0, 54);
        worked(edge, 1, 400, 0, 0, 0);
    }

    private static void worked(StillInAugust x, int week, int hands, int coming, int isShort, int isIdle) {
        String call = "work(" + week + ", " + hands + ", " + coming + ", 0)";
        due(call + " short", x.work(week, hands, coming, 0, false), isShort);
        due(call + " idle", x.work(week, hands, coming, 0, true), isIdle);
    }

    private static void costsOfAWeek() {
        says("Terms 2", "It costs pay for all hands (taught and teaching too, AGENCY not), S for what is SHORT, "
                + "G for each let go, T if there is teaching, A for each that is COMING");
        StillInAugust x = house(DEAR);
        due("costs(0, 0, 0, 0): SHORT alone", x.costs(0, 0, 0, 0), 99 * 7);
        due("costs(0, 0, 0, 2): orders cost nothing yet", x.costs(0, 0, 0, 2), 99 * 7);
        due("costs(0, 0, 2, 0): no pay for AGENCY", x.costs(0, 0, 2, 0), 93 * 7 + 16);
        due("costs(0, 0, 1, 0)", x.costs(0, 0, 1, 0), 96 * 7 + 8);
        due("costs(0, 101, 0, 10): pay for both", x.costs(0, 101, 0, 10), 97 * 7 + 10 + 9);
        due("costs(0, 112, 0, 3000)", x.costs(0, 112, 0, 3000), 96 * 7 + 5 + 9);
        due("costs(0, 4, 0, 4400)", x.costs(0, 4, 0, 4400), 95 * 7 + 20 + 12);
        due("costs(0, 0, 0, 0), the dearest", house(LONGEST).costs(0, 0, 0, 0), 891);
        due("costs(0, 4, 2, 4402), the dearest", house(LONGEST).costs(0, 4, 2, 4402), 87 * 9 + 36 + 36 + 18);
        // IDLE costs nothing, and brings nothing in
        due("costs(0, 4, 0, 0), all IDLE", house("N1H4P0S9").costs(0, 4, 0, 0), 0);
        due("costs(0, 0, 0, 0), S0", house("N1W099S0").costs(0, 0, 0, 0), 0);
        due("costs(0, 101, 0, 1010), all for 0", house("N1H4P0S0G0T0W099").costs(0, 201, 0, 1010), 0);
    }

    private static void sundayByChances() {
        says("Terms 2", "each hand goes or stays by its own chance; who stays is of one AGE more (2 stays 2)");
        StillInAugust none = house("N1H4Q00Q10Q20");
        StillInAugust all = house("N1H4Q05Q15Q25");
        for (int hands : new int[] {0, 1, 4, 10, 40, 100, 400, 111, 112, 211}) {
            int older = 10 * (hands / 100) + hands / 10 % 10 + hands % 10;
            sunday(none, hands, older, 1, 1);
            sunday(all, hands, 0, 1, 1);
            if (hands != 0) {
                sunday(none, hands, 0, 0, 1);
                sunday(all, hands, older, 0, 1);
            }
        }
        StillInAugust mixed = house("N1H4Q05Q10Q25");
        sunday(mixed, 111, 1, 1, 1);
        sunday(mixed, 121, 2, 1, 1);
        StillInAugust x = house("N1H4Q01Q12Q23");
        sunday(x, 4, 4, 16, 625);
        sunday(x, 40, 4, 81, 625);
        sunday(x, 400, 40, 256, 625);
        sunday(x, 400, 0, 1, 625);
        sunday(x, 1, 1, 2, 5);
        sunday(x, 1, 0, 3, 5);
        sunday(x, 11, 2, 6, 25);
        // one of AGE 1 or one of AGE 2 is left: 3/5 3/5 and 2/5 2/5
        sunday(x, 11, 1, 13, 25);
    }

    private static void sundayIsSure() {
        says("Promise 15", "How likely HANDS that did a WEEK are others on the next MONDAY");
        for (int hands : new int[] {0, 2, 20, 300, 111, 12, 210}) {
            StillInAugust x = house("N1H3Q01Q12Q24");
            long parts = 0;
            for (int others = 0; others < 100; others++) {
                parts += x.sunday(hands, others, true) * (625 / x.sunday(hands, others, false));
            }
            due("sunday(" + hands + ", all others together), in parts of 625", parts, 625);
        }
    }

    private static void sundayOfOthers() {
        says("Promise 15", "OUTSIDE: hands");
        StillInAugust x = house("N1H2");
        int[] others = {LEAST, -1, 3, 4, 5, 12, 30, 50, 99, 100, 101, 110, 200, 400, 999, 1000, 1001, MOST};
        for (int n : others) {
            sunday(x, 0, n, 0, 1);
            sunday(x, 2, n, 0, 1);
            sunday(x, 110, n, 0, 1);
        }
        // more than there were
        sunday(x, 1, 2, 0, 1);
        sunday(x, 10, 11, 0, 1);
        sunday(x, 0, 1, 0, 1);
        sunday(x, 0, 0, 1, 1);
        refusedFractions("sunday(n, -1)", (n, upper) -> x.sunday(n, -1, upper), OUTSIDE, -1, 3, 30, 300, LEAST, MOST);
    }

    private static void takingByARule() {
        says("Terms 2", "as many as OFFER, and HOOKS leave room for, and the LEVEL (of the EXCEPTION, if there is one) "
                + "is more than hands there are");
        for (int hooks = 1; hooks <= 4; hooks++) {
            for (int offer = 0; offer <= 4; offer++) {
                StillInAugust x = house("N1H" + hooks + "O0" + offer);
                for (int level = 0; level <= 4; level++) {
                    rule(x, 1, "L" + level);
                    takenBy(x, hooks, offer, level);
                }
            }
        }
    }

    private static void takenBy(StillInAugust x, int hooks, int offer, int level) {
        for (int there = 0; there <= hooks; there++) {
            int taken = 0;
            while (taken < offer && there + taken < hooks && there + taken < level) {
                taken++;
            }
            String call = " with H" + hooks + " O" + offer + " L" + level;
            due("takes(1, 0, " + there + ")" + call, x.takes(1, 0, there), taken);
            due("takes(1, 0, " + 100 * there + ")" + call, x.takes(1, 0, 100 * there), taken);
        }
    }

    private static void takingByException() {
        says("Terms 2", "the LEVEL (of the EXCEPTION, if there is one)");
        StillInAugust x = house("N5H4O04O14O24O34O44");
        rule(x, 0, "0041L2");
        int[] taken = {0, 2, 2, 2, 1};
        for (int week = 0; week < 5; week++) {
            due("takes(0, " + week + ", 0)", x.takes(0, week, 0), taken[week]);
        }
    }

    private static void mayRefused() {
        says("Promise 11", "UNKNOWN: week; OUTSIDE: hands, act (below 0)");
        StillInAugust x = house(FREE);
        each("may(n, 0, 0)", n -> x.may(n, 0, 0), UNKNOWN, -1, 3, 5, LEAST, MOST);
        each("may(0, 0, n)", n -> x.may(0, 0, n), OUTSIDE, -1, -1000, LEAST);
        each("may(n, 999, -1)", n -> x.may(n, 999, -1), UNKNOWN, -1, 3);
        each("may(0, n, -1)", n -> x.may(0, n, -1), OUTSIDE, 0, 999);
        // an act is any number from 0 on: what can not be may not be
        each("may(0, 4, n)", n -> x.may(0, 4, n), 0, 5000, 9999, 10000, 14000, 40000, 1000000000, MOST);
    }

    private static void thenRefused() {
        says("Promise 12", "UNKNOWN; OUTSIDE; STATE: it may not be");
        StillInAugust x = house(FREE);
        each("then(n, 0, 0)", n -> x.then(n, 0, 0), UNKNOWN, -1, 3, LEAST, MOST);
        each("then(0, 0, n)", n -> x.then(0, 0, n), OUTSIDE, -1, LEAST);
        each("then(0, 4, n)", n -> x.then(0, 4, n), STATE, 100, 5000, 10, 3, 10000, MOST);
        each("then(n, 5, -1)", n -> x.then(n, 5, -1), UNKNOWN, -1, 3);
        each("then(0, 5, n)", n -> x.then(0, 5, n), OUTSIDE, -1, 0, 9999);
    }

    private static void costsRefused() {
        says("Promise 13", "UNKNOWN; OUTSIDE: hands, coming, act; STATE");
        StillInAugust x = house(FREE);
        each("costs(n, 0, 0, 0)", n -> x.costs(n, 0, 0, 0), UNKNOWN, -1, 3, LEAST, MOST);
        each("costs(0, 0, 0, n)", n -> x.costs(0, 0, 0, n), OUTSIDE, -1, LEAST);
        each("costs(0, 4, 0, n)", n -> x.costs(0, 4, 0, n), STATE, 100, 5000, 10, 3, 10000, MOST);
        each("costs(n, 5, 3, -1)", n -> x.costs(n, 5, 3, -1), UNKNOWN, -1, 3);
        each("costs(0, 5, 0, n)", n -> x.costs(0, 5, 0, n), OUTSIDE, -1, 0, 9999);
        each("costs(0, 0, 3, n)", n -> x.costs(0, 0, 3, n), OUTSIDE, -1, 0, 9999);
    }

    private static void workRefused() {
        says("Promise 14", "UNKNOWN; OUTSIDE; STATE");
        StillInAugust x = house(FREE);
        for (boolean idle : new boolean[] {false, true}) {
            each("work(n, 0, 0, 0)", n -> x.work(n, 0, 0, 0, idle), UNKNOWN, -1, 3, LEAST, MOST);
            each("work(0, 0, 0, n)", n -> x.work(0, 0, 0, n, idle), OUTSIDE, -1, LEAST);
            each("work(0, 4, 0, n)", n -> x.work(0, 4, 0, n, idle), STATE, 100, 5000, 10, 3, 10000, MOST);
            each("work(n, 5, 3, -1)", n -> x.work(n, 5, 3, -1, idle), UNKNOWN, -1, 3);
            each("work(0, 5, 0, n)", n -> x.work(0, 5, 0, n, idle), OUTSIDE, -1, 0, 9999);
            each("work(0, 0, 3, n)", n -> x.work(0, 0, 3, n, idle), OUTSIDE, -1, 0, 9999);
        }
    }

    private static void takesRefused() {
        says("Promise 16", "UNKNOWN: rule, week; OUTSIDE");
        StillInAugust x = house(FREE);
        rule(x, 0, "L4");
        due("takes(0, 2, 0), the last", x.takes(0, 2, 0), 4);
        each("takes(n, 0, 0)", n -> x.takes(n, 0, 0), UNKNOWN, -1, 3, LEAST, MOST);
        // a rule has a LEVEL for WEEKS that the house does not have
        each("takes(0, n, 0)", n -> x.takes(0, n, 0), UNKNOWN, -1, 3, 4, 5, LEAST, MOST);
        each("takes(0, 0, n)", n -> x.takes(0, 0, n), OUTSIDE, -1, 5, 50, 500, 1000, LEAST, MOST);
        each("takes(n, 0, 5)", n -> x.takes(n, 0, 5), UNKNOWN, -1, 3);
        each("takes(0, n, 5)", n -> x.takes(0, n, 5), UNKNOWN, -1, 3);
    }

    public static void main(String[] args) {
        handsAsNumber();
        handsOfEachCall();
        coming();
        lettingGo();
        takingOn();
        takingOnBehindLettingGo();
        teaching();
        teacherDoesNoWork();
        ordering();
        onlyNothing();
        shortOrIdle();
        costsOfAWeek();
        sundayByChances();
        sundayIsSure();
        sundayOfOthers();
        takingByARule();
        takingByException();
        mayRefused();
        thenRefused();
        costsRefused();
        workRefused();
        takesRefused();
        end();
    }
}
