/** What comes by a rule (part 3 of the terms, promises 17 to 21): a test for each boundary named. */
public final class EdgesByARuleTests extends Checks {
    /** Nobody offers, nobody goes: what is there stays to the end. */
    private static final String STILL = "N3H2O00O10O20W105W206Q00Q10Q20P0S2B30A1";
    /** Four are taken on in the first week alone, and each goes by a fifth. */
    private static final String FOUR = "N5H4O04O10O20O30O40";

    private static void meanToTheEnd() {
        says("Terms 3", "THE MEAN of all costs till the end");
        StillInAugust x = house(STILL);
        mean(x, 0, 0, 0, 0, 22, 1);
        mean(x, 0, 1, 0, 0, 22, 1);
        mean(x, 0, 2, 0, 0, 12, 1);
        // the BONUS is paid behind the last Sunday, from wherever it began
        mean(x, 0, 0, 1, 0, 2 + 4 + 3, 1);
        mean(x, 0, 2, 1, 0, 4 + 3, 1);
        mean(x, 0, 2, 2, 0, 6, 1);
        mean(x, 0, 2, 200, 0, 6, 1);
    }

    private static void meanOfComing() {
        says("Terms 3", "FROM A STATE (a WEEK ahead of its MONDAY, HANDS, COMING) by a RULE");
        StillInAugust x = house(STILL);
        // COMING are of this WEEK alone
        mean(x, 0, 0, 0, 2, 2 + 22, 1);
        mean(x, 0, 1, 0, 1, 1 + 2 + 12, 1);
        mean(x, 0, 1, 0, 2, 2 + 12, 1);
        mean(x, 0, 2, 0, 1, 1 + 4, 1);
        mean(x, 0, 2, 0, 2, 2, 1);
    }

    private static void meanOfChances() {
        says("Promise 17", "THE MEAN");
        StillInAugust x = house("N2H1W004O10P0Q01");
        rule(x, 0, "L1");
        mean(x, 0, 0, 0, 0, 0, 1);
        make(x, "N2H1W104O10P0Q01");
        mean(x, 0, 0, 0, 0, 4, 5);
        make(x, "N2H1W104O10P0Q05");
        mean(x, 0, 0, 0, 0, 4, 1);
        make(x, "N2H1W104O10P0Q00");
        mean(x, 0, 0, 0, 0, 0, 1);
        // the dearest house: nobody is ever taken on
        make(x, LONGEST);
        rule(x, 0, "L0");
        mean(x, 0, 0, 0, 0, 5 * 891, 1);
        mean(x, 0, 4, 0, 2, 91 * 9 + 18, 1);
    }

    private static void meanRefused() {
        says("Promise 17", "UNKNOWN: rule, week; OUTSIDE: hands, coming");
        StillInAugust x = house("N3H2A1");
        refusedFractions("mean(n, 0, 0, 0)", (n, upper) -> x.mean(n, 0, 0, 0, upper), UNKNOWN, -1, 3, LEAST, MOST);
        refusedFractions("mean(0, n, 0, 0)", (n, upper) -> x.mean(0, n, 0, 0, upper), UNKNOWN, -1, 3, 5, LEAST, MOST);
        refusedFractions("mean(0, 0, n, 0)", (n, upper) -> x.mean(0, 0, n, 0, upper), OUTSIDE, -1, 3, 1000, MOST);
        refusedFractions("mean(0, 0, 0, n)", (n, upper) -> x.mean(0, 0, 0, n, upper), OUTSIDE, -1, 3, LEAST, MOST);
        refusedFractions("mean(n, 0, 3, 3)", (n, upper) -> x.mean(n, 0, 3, 3, upper), UNKNOWN, -1, 3);
        refusedFractions("mean(0, n, 3, 3)", (n, upper) -> x.mean(0, n, 3, 3, upper), UNKNOWN, -1, 3);
    }

    private static void shortAboveNothing() {
        says("Terms 3", "how likely SHORT is above 0 in a later WEEK (or this)");
        StillInAugust x = house("N4H1W004W105W204Q00Q10Q20");
        rule(x, 1, "L1");
        // in WEEK 0 just what is wanted is done; in WEEK 1 it is one too little; WEEK 3 wants nothing
        shortly(x, 1, 0, 0, 1);
        shortly(x, 1, 1, 1, 1);
        shortly(x, 1, 2, 0, 1);
        shortly(x, 1, 3, 0, 1);
        shortly(x, 0, 0, 1, 1);
        shortly(x, 0, 3, 0, 1);
        make(x, "N2H1W104O10Q02");
        shortly(x, 1, 1, 2, 5);
    }

    private static void shortlyRefused() {
        says("Promise 18", "UNKNOWN: rule, week");
        for (int w = 1; w <= 5; w++) {
            StillInAugust x = house("N" + w + "W" + (w - 1) + "01");
            shortly(x, 2, w - 1, 1, 1);
            refusedFractions("shortly(0, n)", (n, upper) -> x.shortly(0, n, upper), UNKNOWN, -1, w, LEAST, MOST);
            refusedFractions("shortly(n, 0)", (n, upper) -> x.shortly(n, 0, upper), UNKNOWN, -1, 3, LEAST, MOST);
        }
    }

    private static void idleInAWeek() {
        says("Promise 19", "The mean of IDLE in a WEEK, from WEEK 0, nobody there");
        StillInAugust x = house("N3H1W004W103O10Q01Q10");
        rule(x, 1, "L1");
        idle(x, 1, 0, 0, 1);
        idle(x, 1, 1, 4, 5);
        // who has gone is followed by another: all 4 of work are IDLE in any case
        idle(x, 1, 2, 4, 1);
        idle(x, 0, 0, 0, 1);
        idle(x, 0, 2, 0, 1);
        make(x, "N1H4O04D09");
        rule(x, 1, "L4");
        idle(x, 1, 0, 36, 1);
        make(x, "N1H4O04D00");
        idle(x, 1, 0, 0, 1);
    }

    private static void idleRefused() {
        says("Promise 19", "UNKNOWN");
        for (int w = 1; w <= 5; w++) {
            StillInAugust x = house("N" + w);
            idle(x, 2, w - 1, 0, 1);
            refusedFractions("idle(0, n)", (n, upper) -> x.idle(0, n, upper), UNKNOWN, -1, w, LEAST, MOST);
            refusedFractions("idle(n, 0)", (n, upper) -> x.idle(n, 0, upper), UNKNOWN, -1, 3, LEAST, MOST);
        }
    }

    private static void thereByWeek() {
        says("Promise 20", "ahead of MONDAY of a WEEK (0 to w; w: behind the last Sunday), from WEEK 0, nobody there");
        StillInAugust x = house(FOUR);
        rule(x, 0, "L4");
        // ahead of the first MONDAY nobody is there, whatever the rule
        there(x, 0, 0, 0, 1, 1);
        there(x, 0, 0, 4, 0, 1);
        there(x, 0, 1, 4, 256, 625);
        there(x, 0, 1, 0, 1, 625);
        there(x, 0, 5, 4, 1099511627776L, 95367431640625L);
        // (1 - (4/5)^5)^4
        there(x, 0, 5, 0, 19485170468401L, 95367431640625L);
        for (int w = 1; w <= 5; w++) {
            StillInAugust y = house("N" + w);
            there(y, 0, w, 0, 1, 1);
            refusedFractions("there(0, n, 0)", (n, upper) -> y.there(0, n, 0, upper), UNKNOWN, w + 1, -1, LEAST, MOST);
        }
    }

    private static void thereByNumber() {
        says("Promise 20", "How likely n hands (0 to 4) are there");
        for (int hooks = 1; hooks <= 4; hooks++) {
            StillInAugust x = house("N1O04Q02H" + hooks);
            rule(x, 1, "L4");
            long parts = 0;
            for (int n = 0; n <= 4; n++) {
                parts += x.there(1, 1, n, true) * (625 / x.there(1, 1, n, false));
            }
            due("there(1, 1, all n together), in parts of 625", parts, 625);
            for (int n = hooks + 1; n <= 4; n++) {
                there(x, 1, 1, n, 0, 1);
            }
        }
        StillInAugust x = house("N1O04Q00H4");
        rule(x, 1, "L4");
        there(x, 1, 1, 4, 1, 1);
        there(x, 1, 1, 3, 0, 1);
    }

    private static void thereRefused() {
        says("Promise 20", "UNKNOWN: rule, week; OUTSIDE: n");
        StillInAugust x = house("N2");
        refusedFractions("there(n, 0, 0)", (n, upper) -> x.there(n, 0, 0, upper), UNKNOWN, -1, 3, LEAST, MOST);
        refusedFractions("there(0, 0, n)", (n, upper) -> x.there(0, 0, n, upper), OUTSIDE, -1, 5, LEAST, MOST);
        refusedFractions("there(0, 2, n)", (n, upper) -> x.there(0, 2, n, upper), OUTSIDE, -1, 5);
        refusedFractions("there(0, n, 5)", (n, upper) -> x.there(0, n, 5, upper), UNKNOWN, -1, 3);
        refusedFractions("there(n, 0, 5)", (n, upper) -> x.there(n, 0, 5, upper), UNKNOWN, -1, 3);
    }

    private static void cheapestOfLikeOnes() {
        says("Promise 21", "The RULE that costs least in the mean from WEEK 0, nobody there; of like ones the least");
        StillInAugust x = house("N1W004");
        due("cheapest(), all alike", x.cheapest(), 0);
        // by L0 it costs 4, by L1 and L2 just the pay of one
        String[][] cases = {{"L0", "L1", "L2", "1"}, {"L0", "L2", "L1", "1"}, {"L1", "L0", "L2", "0"},
            {"L0", "L0", "L1", "2"}, {"L1", "L1", "L0", "0"}, {"L0", "L1", "L0", "1"}, {"L4", "L4", "L4", "0"}};
        for (String[] c : cases) {
            for (int rule = 0; rule < 3; rule++) {
                rule(x, rule, c[rule]);
            }
            due("cheapest() of " + c[0] + c[1] + c[2], x.cheapest(), Integer.parseInt(c[3]));
        }
        rule(x, 0, "L1");
        rule(x, 2, "L0");
        make(x, "N1W004P9");
        due("cheapest(), where nobody is worth the pay", x.cheapest(), 2);
    }

    public static void main(String[] args) {
        meanToTheEnd();
        meanOfComing();
        meanOfChances();
        meanRefused();
        shortAboveNothing();
        shortlyRefused();
        idleInAWeek();
        idleRefused();
        thereByWeek();
        thereByNumber();
        thereRefused();
        cheapestOfLikeOnes();
        end();
    }
}
