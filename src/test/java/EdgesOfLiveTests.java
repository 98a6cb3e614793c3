/** A summer as it goes by, kept and gone on from (part 5 of the terms, promises 27 to 31): a test for each boundary. */
public final class EdgesOfLiveTests extends Checks {
    private static final int[] NO_LEAVERS = {
        -1, -10, 5, 9, 15, 45, 50, 54, 90, 105, 150, 205, 345, 350, 399, 405, 445, 450, 500, 544, 999, 1000, 1444,
        LEAST, MOST};

    /** A summer of two hands that stay, gone through to its end. */
    private static StillInAugust over(String text) {
        StillInAugust x = house(text);
        int weeks = x.about(0);
        for (int week = 0; week < weeks; week++) {
            x.act(week == 0 ? 200 : 0);
            x.gone(0);
        }
        return x;
    }

    private static void beginsAnew() {
        says("Terms 5", "It begins, whenever THE HOUSE is made anew, ahead of MONDAY of WEEK 0, nobody there");
        StillInAugust x = house(RICH);
        live(x, 0, 0, 0, 0, 0);
        x.act(202);
        live(x, 0, 200, 0, 1, 22);
        make(x, RICH);
        live(x, 0, 0, 0, 0, 0);
        x.act(202);
        x.gone(0);
        live(x, 1, 20, 2, 0, 22);
        make(x, RICH);
        live(x, 0, 0, 0, 0, 0);
        // nothing of an order that was on its way
        x.act(0);
        x.gone(0);
        live(x, 1, 0, 0, 0, 30);
        x.act(0);
        x.gone(0);
        live(x, 2, 0, 0, 0, 66);
        x.wipe();
        due("make(), refused", x.make(), STATE);
        live(x, 2, 0, 0, 0, 66);
        make(x, RICH);
        live(x, 0, 0, 0, 0, 0);
        due("act(0)", x.act(0), 30);
    }

    private static void bonusAtTheEnd() {
        says("Terms 5", "Behind the last Sunday the BONUS is paid, and it is over");
        live(over("N1H4O04P0B90Q00"), 1, 20, 0, 0, 18);
        live(over("N3H4O04P0B90Q00Q10Q20"), 3, 2, 0, 0, 18);
        live(over("N3H4O04P0B05"), 3, 2, 0, 0, 0);
        live(over("N3H4O04P0"), 3, 2, 0, 0, 0);
        StillInAugust x = house("N2H4O04P0B90");
        x.act(400);
        due("gone(0), not the last", x.gone(0), 4);
        live(x, 1, 40, 0, 0, 0);
        due("act(0): the BONUS is no cost of a WEEK", x.act(0), 0);
        due("gone(30), the last", x.gone(30), 1);
        live(x, 2, 1, 0, 0, 9);
        StillInAugust nobody = house("N1B90W003");
        due("act(0)", nobody.act(0), 3);
        due("gone(0), nobody there", nobody.gone(0), 0);
        live(nobody, 1, 0, 0, 0, 3);
    }

    private static void itIsOver() {
        says("Terms 5", "it is over");
        for (int w = 1; w <= 5; w++) {
            StillInAugust x = over("N" + w + "H4O04P1B10G0T0A0");
            int costs = 2 * w + 2;
            live(x, w, w == 1 ? 20 : 2, 0, 0, costs);
            each("act(n), over", x::act, STATE, 0, 100, 1, 9999, MOST);
            each("gone(n), over", x::gone, STATE, 0, 1, 10, 444);
            live(x, w, w == 1 ? 20 : 2, 0, 0, costs);
        }
    }

    private static void actOutside() {
        says("Promise 27", "OUTSIDE: act (below 0)");
        StillInAugust x = house(RICH);
        each("act(n)", x::act, OUTSIDE, -1, -100, LEAST);
        x.act(100);
        each("act(n), it was", x::act, OUTSIDE, -1, LEAST);
        each("act(n), over", over(RICH)::act, OUTSIDE, -1, LEAST);
    }

    private static void actRefused() {
        says("Promise 27", "STATE: it was, or it is over, or the ACT may not be");
        StillInAugust x = house(RICH);
        each("act(n), it may not be", x::act, STATE, 300, 1000, 10, 3, 9999, 10000, MOST);
        live(x, 0, 0, 0, 0, 0);
        due("act(202)", x.act(202), 22);
        each("act(n), it was", x::act, STATE, 0, 100, 1, 9999);
        live(x, 0, 200, 0, 1, 22);
        x.gone(0);
        each("act(n), in the last WEEK", x::act, STATE, 1, 2, 200, 3000, 10);
        due("act(2300)", x.act(2300), 6 + 8 + 12);
        each("act(n), it was", x::act, STATE, 0, 100);
        x.gone(0);
        each("act(n), it is over", x::act, STATE, 0, 100);
    }

    private static void actCosts() {
        says("Promise 27", "A MONDAY'S ACT, and THE WEEK: what it cost");
        StillInAugust x = house(LONGEST);
        due("act(0), nobody", x.act(0), 891);
        x.gone(0);
        due("act(402)", x.act(402), 95 * 9 + 36);
        x.gone(0);
        due("act(4401)", x.act(4401), (99 - 4 - 8) * 9 + 36 + 36 + 18);
        x.gone(400);
        due("act(0)", x.act(0), 95 * 9 + 9);
        due("live(4)", x.live(4), 891 + 891 + 873 + 864);
    }

    private static void orderedAreComing() {
        says("Terms 2", "Those ordered are COMING");
        StillInAugust x = house("N4A1P0");
        x.act(2);
        due("live(2), not yet", x.live(2), 0);
        x.gone(0);
        due("live(2)", x.live(2), 2);
        due("act(1)", x.act(1), 2);
        due("live(2), till Sunday", x.live(2), 2);
        x.gone(0);
        // in the next WEEK alone, and just those
        due("live(2)", x.live(2), 1);
        due("act(0)", x.act(0), 1);
        x.gone(0);
        due("live(2), none", x.live(2), 0);
        due("act(0)", x.act(0), 0);
        x.gone(0);
        due("live(2), over", x.live(2), 0);
    }

    private static void mondayWas() {
        says("Terms 5", "whether its MONDAY was (then THE WEEK was, too, and Sunday comes), all COSTS so far");
        StillInAugust x = house("N2W005W105");
        live(x, 0, 0, 0, 0, 0);
        due("gone(0), ahead of MONDAY", x.gone(0), STATE);
        due("act(100)", x.act(100), 2);
        live(x, 0, 100, 0, 1, 2);
        due("act(0), a second MONDAY", x.act(0), STATE);
        due("gone(100)", x.gone(100), 0);
        live(x, 1, 0, 0, 0, 2);
        due("gone(0), a second Sunday", x.gone(0), STATE);
        due("act(0)", x.act(0), 5);
        live(x, 1, 0, 0, 1, 7);
    }

    private static void goneOutside() {
        says("Promise 28", "OUTSIDE: gone (0 to 444, a number of figures to 4)");
        StillInAugust x = house("N2H4O04");
        each("gone(n), no MONDAY was", x::gone, OUTSIDE, NO_LEAVERS);
        x.act(400);
        each("gone(n)", x::gone, OUTSIDE, NO_LEAVERS);
        each("gone(n), over", over(RICH)::gone, OUTSIDE, NO_LEAVERS);
        for (int gone = -5; gone <= 1005; gone++) {
            StillInAugust y = house("N1");
            boolean told = gone >= 0 && gone <= 444 && gone / 10 % 10 <= 4 && gone % 10 <= 4;
            due("gone(" + gone + "), no MONDAY was", y.gone(gone), told ? STATE : OUTSIDE);
        }
    }

    private static void goneRefused() {
        says("Promise 28", "STATE: its MONDAY was not, or it is over, or there are not so many");
        StillInAugust x = house("N3H4O04O14T0");
        each("gone(n), its MONDAY was not", x::gone, STATE, 0, 1, 100, 444);
        x.act(200);
        // of each AGE there must be as many
        each("gone(n), not so many", x::gone, STATE, 1, 10, 300, 400, 210, 201, 444);
        live(x, 0, 200, 0, 1, 2);
        due("gone(200)", x.gone(200), 0);
        each("gone(n), its MONDAY was not", x::gone, STATE, 0, 10);
        x.act(0);
        each("gone(n), nobody there", x::gone, STATE, 1, 10, 100);
        due("gone(0), nobody there", x.gone(0), 0);
        x.act(100);
        x.gone(0);
        each("gone(n), it is over", x::gone, STATE, 0, 10);
    }

    private static void goneByAges() {
        says("Promise 28", "A Sunday: those (HANDS, by AGES as they were that WEEK) go: how many hands are left");
        StillInAugust x = house("N4H4O04O14O24T0P0");
        x.act(100);
        x.gone(0);
        x.act(100);
        x.gone(0);
        live(x, 2, 11, 0, 0, 0);
        // two taken on, and one of them taught: it is of AGE 1 that WEEK
        x.act(210);
        live(x, 2, 121, 0, 1, 0);
        x.keep(0);
        due("gone(121), all", x.gone(121), 0);
        live(x, 3, 0, 0, 0, 0);
        x.again(0);
        due("gone(200), one was taught", x.gone(200), STATE);
        due("gone(21)", x.gone(21), 1);
        live(x, 3, 10, 0, 0, 0);
        x.again(0);
        due("gone(0)", x.gone(0), 4);
        live(x, 3, 13, 0, 0, 0);
    }

    private static void goneWithoutAChance() {
        says("Promise 28", "or there are not so many");
        // that it has no chance is no reason that is named
        StillInAugust x = house("N2H2O02Q00Q15P0");
        x.act(200);
        due("gone(100), by no chance", x.gone(100), 1);
        x.act(0);
        due("gone(0), by no chance", x.gone(0), 1);
        live(x, 2, 1, 0, 0, 0);
    }

    private static void liveAsked() {
        says("Promise 29", "The WEEK (what = 0; when it is over w), HANDS (1), COMING (2), whether its MONDAY was (3), "
                + "COSTS (4). OUTSIDE");
        StillInAugust x = house(RICH);
        each("live(n)", x::live, OUTSIDE, -1, 5, LEAST, MOST);
        live(x, 0, 0, 0, 0, 0);
        x.act(202);
        live(x, 0, 200, 0, 1, 22);
        x.gone(0);
        live(x, 1, 20, 2, 0, 22);
        x.act(0);
        live(x, 1, 20, 2, 1, 22 + 4 + 12);
        x.gone(0);
        live(x, 2, 2, 0, 0, 22 + 16 + 14);
        each("live(n), over", x::live, OUTSIDE, -1, 5);
    }

    private static void slots() {
        says("Terms 5", "SLOTS 0 to 1 keep what is LIVE");
        StillInAugust x = house(RICH);
        each("keep(n)", x::keep, UNKNOWN, -1, 2);
        each("again(n), none was kept by those", x::again, STATE, 0, 1);
        x.keep(1);
        due("again(0), the other was kept", x.again(0), STATE);
        x.act(200);
        x.keep(0);
        x.gone(200);
        due("again(1)", x.again(1), 0);
        live(x, 0, 0, 0, 0, 0);
        due("again(0)", x.again(0), 0);
        live(x, 0, 200, 0, 1, 22);
    }

    private static void kept() {
        says("Promise 30", "What is LIVE is kept: 1 (0: other was kept there). UNKNOWN");
        StillInAugust x = house(RICH);
        each("keep(n)", x::keep, UNKNOWN, -1, 2, LEAST, MOST);
        due("keep(1)", x.keep(1), 1);
        due("keep(0)", x.keep(0), 1);
        due("keep(0), like was", x.keep(0), 0);
        x.act(200);
        due("keep(0), other was", x.keep(0), 0);
        due("again(1), the first still", x.again(1), 0);
        live(x, 0, 0, 0, 0, 0);
        due("again(0), the last", x.again(0), 0);
        live(x, 0, 200, 0, 1, 22);
        make(x, RICH);
        due("keep(0), nothing is kept in a new house", x.keep(0), 1);
    }

    private static void keptAndGoneOn() {
        says("Promise 31", "It is as it was kept: its WEEK");
        StillInAugust x = house(RICH);
        x.keep(0);
        x.act(202);
        x.keep(1);
        x.gone(200);
        x.act(300);
        x.gone(300);
        live(x, 2, 0, 0, 0, 22 + 6 + 12);
        due("again(1)", x.again(1), 0);
        live(x, 0, 200, 0, 1, 22);
        // the order, too, was kept
        x.gone(0);
        live(x, 1, 20, 2, 0, 22);
        x.keep(1);
        due("again(0)", x.again(0), 0);
        live(x, 0, 0, 0, 0, 0);
        due("again(0), kept still", x.again(0), 0);
        due("again(1)", x.again(1), 1);
        live(x, 1, 20, 2, 0, 22);
        x.act(0);
        x.gone(0);
        x.keep(0);
        x.again(1);
        due("again(0), over", x.again(0), 2);
        live(x, 2, 2, 0, 0, 52);
    }

    private static void againRefused() {
        says("Promise 31", "UNKNOWN; STATE: none was kept");
        StillInAugust x = house(RICH);
        each("again(n)", x::again, UNKNOWN, -1, 2, LEAST, MOST);
        each("again(n), none was kept", x::again, STATE, 0, 1);
        x.keep(0);
        x.act(200);
        each("again(n)", x::again, UNKNOWN, -1, 2);
        due("again(1), none was kept", x.again(1), STATE);
        live(x, 0, 200, 0, 1, 22);
        text(x, "N");
        x.make();
        due("again(0), a refused house takes nothing", x.again(0), 0);
        make(x, RICH);
        each("again(n), a new house", x::again, STATE, 0, 1);
    }

    public static void main(String[] args) {
        beginsAnew();
        bonusAtTheEnd();
        itIsOver();
        actOutside();
        actRefused();
        actCosts();
        orderedAreComing();
        mondayWas();
        goneOutside();
        goneRefused();
        goneByAges();
        goneWithoutAChance();
        liveAsked();
        slots();
        kept();
        keptAndGoneOn();
        againRefused();
        end();
    }
}
