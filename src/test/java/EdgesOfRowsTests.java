/** Rows of a past summer judged (part 5 of the terms, promises 32 to 38): a test for each boundary named. */
public final class EdgesOfRowsTests extends Checks {
    private static final int[] NO_LEAVERS = {
        -1, 5, 9, 45, 50, 54, 105, 150, 405, 445, 450, 500, 544, 1000, LEAST, MOST};
    /** Two weeks, nothing costs, who is taken on stays by 3, then 4 fifths. */
    private static final String PLAIN = "N2H2O02O12P0Q02";

    private static StillInAugust row(String text, int... actsAndGone) {
        StillInAugust x = house(text);
        for (int i = 0; i + 1 < actsAndGone.length; i += 2) {
            due("tell()", x.tell(actsAndGone[i], actsAndGone[i + 1]), i / 2 + 1);
        }
        return x;
    }

    private static void notSo(int week, String text, int... actsAndGone) {
        StillInAugust x = row(text, actsAndGone);
        due("judge() of " + text, x.judge(), week);
        due("paid() of " + text, x.paid(), STATE);
        luck(x, STATE, STATE);
        due("worst() of " + text, x.worst(), STATE);
    }

    private static void isSo(String text, int... actsAndGone) {
        due("judge() of " + text, row(text, actsAndGone).judge(), NONE);
    }

    private static void tellOutside() {
        says("Promise 32", "OUTSIDE: act (0 to 9999), gone (0 to 444, a number of figures to 4)");
        StillInAugust x = house(PLAIN);
        each("tell(n, 0)", n -> x.tell(n, 0), OUTSIDE, -1, 10000, LEAST, MOST);
        each("tell(0, n)", n -> x.tell(0, n), OUTSIDE, NO_LEAVERS);
        due("count(1)", x.count(1), 0);
        due("tell(9999, 444), the most", x.tell(9999, 444), 1);
        due("tell(0, 0), the least", x.tell(0, 0), 2);
        due("tell(10, 40)", x.tell(10, 40), 3);
        due("tell(1, 404)", x.tell(1, 404), 4);
    }

    private static void tellFull() {
        says("Promise 32", "FULL: 5");
        StillInAugust x = new StillInAugust();
        for (int i = 1; i <= 5; i++) {
            due("tell(0, 0) no. " + i, x.tell(0, 0), i);
        }
        each("tell(n, 0), full", n -> x.tell(n, 0), FULL, 0, 9999);
        each("tell(0, n), full", n -> x.tell(0, n), FULL, 0, 444);
        each("tell(n, 0), full", n -> x.tell(n, 0), OUTSIDE, -1, 10000);
        each("tell(0, n), full", n -> x.tell(0, n), OUTSIDE, -1, 445, 5);
        due("count(1)", x.count(1), 5);
    }

    private static void rowOfFive() {
        says("Terms 5", "A ROW is a summer told WEEK by WEEK (5 at most)");
        StillInAugust x = row("N5P1B20Q00Q10Q20", 100, 0, 0, 0, 0, 0, 0, 0, 100, 0);
        due("tell(), what is one too many does not come", x.tell(9999, 444), FULL);
        due("judge()", x.judge(), NONE);
        due("paid(), all five", x.paid(), 4 + 2 + 4);
        luck(x, 1, 1);
    }

    private static void untold() {
        says("Promise 33", "THE ROW is empty: how long it was");
        StillInAugust x = house(PLAIN);
        due("untell(), empty", x.untell(), 0);
        for (int i = 0; i < 5; i++) {
            x.tell(9999, 444);
        }
        due("untell(), full", x.untell(), 5);
        due("untell(), empty again", x.untell(), 0);
        due("count(1)", x.count(1), 0);
        due("judge(), nothing of the old", x.judge(), NONE);
        due("tell(), there is room again", x.tell(200, 0), 1);
        due("judge()", x.judge(), NONE);
    }

    private static void judgedEmpty() {
        says("Promise 34", "JUDGED: the first WEEK that can not have been so");
        for (String text : new String[] {"N1", "N5", RICH, LONGEST}) {
            StillInAugust x = house(text);
            due("judge(), empty", x.judge(), NONE);
            due("paid(), empty", x.paid(), 0);
            luck(x, 1, 1);
            due("worst(), empty", x.worst(), NONE);
        }
    }

    private static void weeksTheHouseDoesNotHave() {
        says("Promise 34", "(also one that THE HOUSE does not have); NONE");
        for (int w = 1; w <= 5; w++) {
            StillInAugust x = house("N" + w);
            for (int told = 1; told <= 5; told++) {
                x.tell(0, 0);
                due("judge() of " + told + " in N" + w, x.judge(), told > w ? w : NONE);
                due("paid() of " + told + " in N" + w, x.paid(), told > w ? STATE : 0);
            }
        }
        // one that can not have been so ahead of it is the first
        notSo(0, "N1", 300, 0, 0, 0);
        notSo(1, "N2", 0, 0, 300, 0, 0, 0);
        // by a house made anew it is judged anew
        StillInAugust x = row("N2", 0, 0, 0, 0);
        due("judge()", x.judge(), NONE);
        make(x, "N1");
        due("judge(), a shorter house", x.judge(), 1);
    }

    private static void actMayNotBe() {
        says("Terms 5", "the ACT may not be");
        notSo(0, PLAIN, 300, 0);
        notSo(0, PLAIN, 1000, 0);
        notSo(0, PLAIN, 10, 0);
        notSo(0, PLAIN, 1, 0);
        notSo(0, PLAIN, 9999, 0);
        notSo(1, PLAIN, 200, 0, 100, 0);
        isSo(PLAIN, 200, 100, 100, 0);
        // ordered in the last WEEK
        notSo(1, "N2A0", 2, 0, 1, 0);
        isSo("N3A0", 2, 0, 1, 0);
    }

    private static void moreLeftThanThere() {
        says("Terms 5", "more left than there were");
        notSo(0, PLAIN, 0, 100);
        notSo(0, PLAIN, 200, 300);
        notSo(0, PLAIN, 200, 10);
        notSo(0, PLAIN, 200, 1);
        notSo(0, PLAIN, 200, 210);
        isSo(PLAIN, 200, 200);
        // in the second WEEK they are of AGE 1
        notSo(1, PLAIN, 200, 0, 0, 100);
        isSo(PLAIN, 200, 0, 0, 20);
        notSo(1, PLAIN, 200, 100, 0, 20);
    }

    private static void noChance() {
        says("Terms 5", "or it has no chance");
        // with no fifths nobody goes, with five all go
        notSo(0, "N2H2O02Q00", 200, 100);
        isSo("N2H2O02Q00", 200, 0);
        notSo(0, "N2H2O02Q05", 200, 100);
        notSo(0, "N2H2O02Q05", 200, 0);
        isSo("N2H2O02Q05", 200, 200);
        isSo("N2H2O02Q05", 0, 0);
        // the BONUS counts: one fifth less is none
        notSo(0, "N1H2O02Q01B01", 200, 100);
        isSo("N1H2O02Q02B01", 200, 100);
        notSo(1, "N2H2O02Q10", 200, 0, 0, 10);
    }

    private static void judgedFromNobody() {
        says("Terms 5", "JUDGED from WEEK 0, nobody there");
        StillInAugust x = row(PLAIN, 200, 0, 0, 0);
        x.act(200);
        x.gone(0);
        due("judge()", x.judge(), NONE);
        live(x, 1, 20, 0, 0, 0);
        due("paid()", x.paid(), 0);
        x.untell();
        x.tell(0, 10);
        due("judge(), not from what is LIVE", x.judge(), 0);
        live(x, 1, 20, 0, 0, 0);
    }

    private static void paidToTheEnd() {
        says("Promise 35", "What THE ROW cost (the BONUS, if it goes to the end). STATE: it is not so");
        String house = "N2H2O02P1W109S2B90";
        due("paid(), empty", row(house).paid(), 0);
        due("paid(), not to the end", row(house, 200, 0).paid(), 2);
        due("paid(), to the end", row(house, 200, 0, 0, 0).paid(), 2 + 2 + 2 + 18);
        due("paid(), one of them left", row(house, 200, 0, 0, 10).paid(), 2 + 2 + 2 + 9);
        due("paid(), all left", row(house, 200, 0, 0, 20).paid(), 2 + 2 + 2);
        due("paid(), nobody at the end", row(house, 0, 0, 0, 0).paid(), 18);
        due("paid(), it is not so", row(house, 200, 0, 300, 0).paid(), STATE);
        due("paid(), longer than the house", row(house, 200, 0, 0, 0, 0, 0).paid(), STATE);
        due("paid(), no BONUS", row("N1P3", 100, 0).paid(), 3);
        due("paid(), the dearest", row(LONGEST, 402, 0, 4402, 0, 4402, 0, 4402, 0, 4400, 0).paid(),
                855 + 36 + 4 * (783 + 36 + 36 + 18) + 36);
    }

    private static void luckOfAll() {
        says("Promise 36", "How likely its Sundays were. STATE: it is not so");
        luck(row(PLAIN), 1, 1);
        luck(row(PLAIN, 0, 0, 0, 0), 1, 1);
        luck(row("N1H2O02Q00", 200, 0), 1, 1);
        luck(row("N1H2O02Q05", 200, 200), 1, 1);
        luck(row(PLAIN, 200, 100), 12, 25);
        luck(row(PLAIN, 200, 100, 0, 10), 12, 125);
        luck(row(PLAIN, 200, 100, 100, 100), 12 * 4 * 2, 625);
        luck(row(PLAIN, 200, 300), STATE, STATE);
        luck(row(PLAIN, 0, 0, 0, 0, 0, 0), STATE, STATE);
        // the least that can be: twenty hands gone, by a fifth each
        luck(row("N5H4O04O14O24O34O44", 400, 400, 400, 400, 400, 400, 400, 400, 400, 400), 1, 95367431640625L);
        luck(row("N5H4O04O14O24O34O44", 400, 0, 0, 0, 0, 0, 0, 0, 0, 0), 1099511627776L, 95367431640625L);
    }

    private static void worstOfLikeOnes() {
        says("Promise 37", "The WEEK in which most was lost by what was SHORT, of like ones the first; NONE: none was");
        due("worst(), empty", row("N3W009").worst(), NONE);
        due("worst(), none was", row("N3", 0, 0, 0, 0, 0, 0).worst(), NONE);
        due("worst(), like ones", row("N3W005W105W205", 0, 0, 0, 0, 0, 0).worst(), 0);
        due("worst(), like ones behind another", row("N3W004W105W205", 0, 0, 0, 0, 0, 0).worst(), 1);
        due("worst(), the last", row("N3W004W105W206", 0, 0, 0, 0, 0, 0).worst(), 2);
        due("worst(), by one", row("N2W199W000", 0, 0, 0, 0).worst(), 1);
        due("worst(), just enough", row("N1W004", 100, 0).worst(), NONE);
        due("worst(), IDLE", row("N1W003", 100, 0).worst(), NONE);
        due("worst(), of those told", row("N3W001W205", 0, 0, 0, 0).worst(), 0);
        // what is lost is what it costs
        due("worst(), SHORT costs nothing", row("N1W099S0", 0, 0).worst(), NONE);
        due("worst(), other costs are not counted", row("N2H2O02P9W001", 0, 0, 100, 0).worst(), 0);
    }

    private static void judgedAgain() {
        says("Promise 34", "JUDGED");
        // what was judged before leaves no trace
        StillInAugust x = row("N2W009W109O14", 0, 0, 200, 20);
        due("judge()", x.judge(), 1);
        due("worst()", x.worst(), STATE);
        x.untell();
        x.tell(0, 0);
        due("judge()", x.judge(), NONE);
        due("paid()", x.paid(), 9);
        due("paid(), again", x.paid(), 9);
        due("worst()", x.worst(), 0);
        due("worst(), again", x.worst(), 0);
        x.tell(100, 100);
        luck(x, 1, 5);
        luck(x, 1, 5);
        make(x, "N2W109O14");
        due("worst(), by a house made anew", x.worst(), 1);
    }

    private static void worstRefused() {
        says("Promise 37", "STATE: it is not so");
        due("worst()", row("N1W009", 300, 0).worst(), STATE);
        due("worst()", row("N1W009", 0, 1).worst(), STATE);
        due("worst(), longer than the house", row("N1W009", 0, 0, 0, 0).worst(), STATE);
    }

    private static void counted() {
        says("Promise 38", "0 bytes of THE TEXT, 1 WEEKS of THE ROW, 2 all work that is wanted, 3 all who OFFER. "
                + "OUTSIDE");
        StillInAugust x = new StillInAugust();
        each("count(n)", x::count, 0, 0, 1, 2);
        due("count(3)", x.count(3), 1);
        each("count(n)", x::count, OUTSIDE, -1, 4, LEAST, MOST);
        make(x, LONGEST);
        for (int i = 0; i < 5; i++) {
            x.tell(0, 0);
        }
        int[] most = {64, 5, 495, 20};
        for (int what = 0; what < 4; what++) {
            due("count(" + what + ")", x.count(what), most[what]);
        }
        each("count(n)", x::count, OUTSIDE, -1, 4);
        make(x, "N5O00O10O20O30O40");
        due("count(3), nobody", x.count(3), 0);
        // WEEKS that the house does not have are not counted
        make(x, "N2");
        due("count(3)", x.count(3), 2);
        due("count(2)", x.count(2), 0);
    }

    public static void main(String[] args) {
        tellOutside();
        tellFull();
        rowOfFive();
        untold();
        judgedEmpty();
        weeksTheHouseDoesNotHave();
        actMayNotBe();
        moreLeftThanThere();
        noChance();
        judgedFromNobody();
        paidToTheEnd();
        luckOfAll();
        worstOfLikeOnes();
        worstRefused();
        judgedAgain();
        counted();
        end();
    }
}
