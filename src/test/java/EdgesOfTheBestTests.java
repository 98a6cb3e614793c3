/** The best acts (part 4 of the terms, promises 22 to 26): a test for each boundary named. */
public final class EdgesOfTheBestTests extends Checks {
    /** Nothing is wanted and nothing costs: all acts are alike. */
    private static final String ALIKE = "N2H4O04O14P0G0T0A0";

    private static void leastMean() {
        says("Terms 4", "the least mean of all costs by any ACTS, each by what is seen that MONDAY");
        StillInAugust x = house("N2H1W109O10D19P0Q02A3");
        // one taken on: 9 by 2/5; with an order besides 3, and 5 by 2/5: that is more
        best(x, 0, 0, 0, 18, 5);
        best(x, 1, 10, 0, 0, 1);
        best(x, 1, 0, 0, 9, 1);
        best(x, 1, 0, 2, 6 + 1, 1);
        make(x, "N1W099O00S9");
        best(x, 0, 0, 0, 891, 1);
        make(x, "N1O00");
        best(x, 0, 0, 0, 0, 1);
        // who has gone is seen on MONDAY, and only then another is taken on
        make(x, "N2H1W009W109D09D19P1S9");
        best(x, 0, 0, 0, 2, 1);
    }

    private static void bestRefused() {
        says("Promise 22", "UNKNOWN: week; OUTSIDE: hands, coming");
        StillInAugust x = house("N3H2A1");
        refusedFractions("best(n, 0, 0)", (n, upper) -> x.best(n, 0, 0, upper), UNKNOWN, -1, 3, 5, LEAST, MOST);
        refusedFractions("best(0, n, 0)", (n, upper) -> x.best(0, n, 0, upper), OUTSIDE, -1, 3, 1000, LEAST, MOST);
        refusedFractions("best(0, 0, n)", (n, upper) -> x.best(0, 0, n, upper), OUTSIDE, -1, 3, LEAST, MOST);
        refusedFractions("best(n, 3, 3)", (n, upper) -> x.best(n, 3, 3, upper), UNKNOWN, -1, 3);
        best(x, 2, 2, 2, 4, 1);
    }

    private static void leastAct() {
        says("Terms 4", "its first ACT (of like ones the least number)");
        StillInAugust x = house(ALIKE);
        for (int hands : new int[] {0, 1, 4, 101, 202, 400}) {
            due("bestAct(0, " + hands + ", 0)", x.bestAct(0, hands, 0), 0);
            due("bestAct(1, " + hands + ", 2)", x.bestAct(1, hands, 2), 0);
        }
        // an order and a hand taken on are alike, so are one ordered and two
        make(x, "N2H1O10W104Q00P0A0");
        due("bestAct(0, 0, 0), 1 like 100", x.bestAct(0, 0, 0), 1);
        make(x, "N2H1O10W105Q00P0A0");
        due("bestAct(0, 0, 0), 2 less than 101", x.bestAct(0, 0, 0), 2);
        // teaching and taking on another are alike
        make(x, "N1H3W004D14D20D04P0T0");
        due("bestAct(0, 1, 0), 100 like 110", x.bestAct(0, 1, 0), 100);
        make(x, "N1H3W004D14D20D00P0T0");
        due("bestAct(0, 101, 0), teaching alone helps", x.bestAct(0, 101, 0), 10);
        make(x, "N1H4G1P1");
        due("bestAct(0, 4, 0), letting go is like keeping", x.bestAct(0, 4, 0), 0);
        make(x, "N1H4G0P1");
        due("bestAct(0, 4, 0), all are let go", x.bestAct(0, 4, 0), 4000);
    }

    private static void bestActRefused() {
        says("Promise 23", "Its first ACT. UNKNOWN; OUTSIDE");
        StillInAugust x = house("N3H2A1");
        each("bestAct(n, 0, 0)", n -> x.bestAct(n, 0, 0), UNKNOWN, -1, 3, 5, LEAST, MOST);
        each("bestAct(0, n, 0)", n -> x.bestAct(0, n, 0), OUTSIDE, -1, 3, 21, 1000, LEAST, MOST);
        each("bestAct(0, 0, n)", n -> x.bestAct(0, 0, n), OUTSIDE, -1, 3, LEAST, MOST);
        each("bestAct(n, 3, 3)", n -> x.bestAct(n, 3, 3), UNKNOWN, -1, 3);
        each("bestAct(0, 0, n), no A", n -> house("N1").bestAct(0, 0, n), OUTSIDE, 1, 2);
    }

    private static void leastLevel() {
        says("Terms 4", "A WEEK goes by LEVEL l, if of all HANDS (none COMING) the BEST takes on as many as by that "
                + "level; the least such l (0 to 4)");
        // nobody offers: it goes by every LEVEL, and the least is 0
        levelIs(house("N1H4O00W099"), 0, 0);
        // one hook: it goes by 1 and by all above
        levelIs(house("N1H1O04W004"), 0, 1);
        levelIs(house("N1H4O04W004"), 0, 1);
        levelIs(house("N1H4O04W008"), 0, 2);
        levelIs(house("N1H4O04W012"), 0, 3);
        levelIs(house("N1H4O04W016"), 0, 4);
        levelIs(house("N1H4O04W099"), 0, 4);
        levelIs(house("N1H4O04"), 0, 0);
        levelIs(house("N1H4O04W016P4"), 0, 0);
        // COMING hands would do the work: it goes by who is there with none of them
        levelIs(house("N1H4O04W008A0"), 0, 2);
        levelIs(house("N2H4O14W112"), 1, 3);
    }

    private static void levelIs(StillInAugust x, int week, int level) {
        due("shape(" + week + ")", x.shape(week), level);
        due("against(shape)", x.against(week, level), NONE);
        for (int less = 0; less < level; less++) {
            // by a lower LEVEL there is one too few when nobody is there
            due("against(" + week + ", " + less + ")", x.against(week, less), 0);
        }
    }

    private static void byNoLevel() {
        says("Promise 24", "The LEVEL by which a WEEK goes; NONE. UNKNOWN");
        // two of AGE 0 are wanted, but one of AGE 1 or 2 is enough
        StillInAugust x = house("N1H4W008O04D18D28");
        due("shape(0)", x.shape(0), NONE);
        // letting go and taking on as many: by no LEVEL anybody would be taken on for those
        make(x, "N1H1W009D09D10D20G0");
        due("shape(0), who is there is let go", x.shape(0), NONE);
        make(x, "N3");
        each("shape(n)", x::shape, 0, 0, 1, 2);
        each("shape(n)", x::shape, UNKNOWN, -1, 3, 5, LEAST, MOST);
    }

    private static void leastAgainst() {
        says("Promise 25", "The least HANDS (as a number) with which a WEEK does not go by a LEVEL l; NONE");
        StillInAugust x = house("N1H4W008O04D18D28");
        int[] against = {0, 0, 1, 0, 0};
        for (int l = 0; l <= 4; l++) {
            due("against(0, " + l + ")", x.against(0, l), against[l]);
        }
        make(x, "N1H4W008O04D18");
        due("against(0, 2)", x.against(0, 2), 10);
        // with all HOOKS taken no LEVEL takes on anybody; letting go one of the full house is not by it
        make(x, "N1H1W009D09D10D20G0");
        due("against(0, 1)", x.against(0, 1), 1);
        due("against(0, 0)", x.against(0, 0), 0);
        // of AGE 1 alone one is let go and one taken on, as by the LEVEL; beside one of AGE 2 there is no room by it
        make(x, "N1H2W018D09D10D29G0");
        due("against(0, 2)", x.against(0, 2), 11);
        make(x, "N1H4O00");
        each("against(0, l), nobody offers", l -> x.against(0, l), NONE, 0, 1, 2, 3, 4);
        // hands of AGE 0 are among all HANDS, though on a MONDAY nobody is of it
        make(x, "N1H2W005D15D25P0");
        due("against(0, 1)", x.against(0, 1), 100);
    }

    private static void againstRefused() {
        says("Promise 25", "UNKNOWN; OUTSIDE: l (0 to 4)");
        StillInAugust x = house("N3");
        each("against(n, 0)", n -> x.against(n, 0), UNKNOWN, -1, 3, 5, LEAST, MOST);
        each("against(0, n)", n -> x.against(0, n), OUTSIDE, -1, 5, LEAST, MOST);
        each("against(2, n)", n -> x.against(2, n), OUTSIDE, -1, 5);
        each("against(n, 5)", n -> x.against(n, 5), UNKNOWN, -1, 3);
        due("against(0, 0)", x.against(0, 0), NONE);
        due("against(2, 4)", x.against(2, 4), 0);
    }

    private static void withoutMeans() {
        says("Terms 4", "WITHOUT some means (bits: 1 letting go, 2 teaching, 4 AGENCY hands, 8 the BONUS): the BEST "
                + "from WEEK 0, nobody there, in a HOUSE that does not have them");
        withoutBit("N2H1W009W109D09D10D20G1P0Q00Q10Q20", 1, 1, 9);
        withoutBit("N3H2O10W209D00D19D20T0P0Q00Q10Q20", 2, 0, 9);
        withoutBit("N2H1O00O10W109D29A1", 4, 1, 9);
        withoutBit("N2H1O10W109D19P0Q05B05", 8, 0, 9);
        // of a house that has none of them nothing is taken away
        StillInAugust bare = house("N1H1W009D09");
        for (int means = 0; means <= 15; means++) {
            without(bare, means, 1, 1);
        }
    }

    /** In this house only one of the means is worth something: all sets of means are asked for. */
    private static void withoutBit(String text, int bit, int with, int without) {
        StillInAugust x = house(text);
        best(x, 0, 0, 0, with, 1);
        for (int means = 0; means <= 15; means++) {
            without(x, means, (means & bit) != 0 ? without : with, 1);
        }
        best(x, 0, 0, 0, with, 1);
        due("about(4)", x.about(4), house(text).about(4));
        due("about(7)", x.about(7), house(text).about(7));
    }

    private static void withoutRefused() {
        says("Promise 26", "OUTSIDE: means (0 to 15)");
        StillInAugust x = house("N1W004O00");
        refusedFractions("without(n)", x::without, OUTSIDE, -1, 16, 17, 32, LEAST, MOST);
        without(x, 0, 4, 1);
        without(x, 15, 4, 1);
    }

    public static void main(String[] args) {
        leastMean();
        bestRefused();
        leastAct();
        bestActRefused();
        leastLevel();
        byNoLevel();
        leastAgainst();
        againstRefused();
        withoutMeans();
        withoutRefused();
        end();
    }
}
