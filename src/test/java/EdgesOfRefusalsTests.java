import java.util.ArrayList;
import java.util.List;
import java.util.function.Supplier;
import java.util.function.ToLongFunction;

/** Refusals, fractions and how long an object lasts (the head of the terms): a test for each boundary named. */
public final class EdgesOfRefusalsTests extends Checks {
    /** A call that is refused, and the refusal due. */
    private record Refused(String call, int refusal, ToLongFunction<StillInAugust> asked) {
    }

    /** A summer under way: a rule as the text, three rules, a MONDAY that was, one kept, two weeks told. */
    private static StillInAugust underWay() {
        StillInAugust x = house(RICH);
        rule(x, 0, "L1");
        rule(x, 1, "13L2");
        rule(x, 2, "0112L3");
        x.act(102);
        x.gone(0);
        x.keep(1);
        x.act(100);
        x.tell(202, 100);
        x.tell(0, 0);
        return x;
    }

    /** Ahead of a MONDAY, the text a house, nothing kept, a row that can not have been so. */
    private static StillInAugust aheadOfMonday() {
        StillInAugust x = house(RICH);
        x.act(201);
        x.gone(100);
        x.tell(9999, 444);
        return x;
    }

    /** All that can be full is full, and the summer is over. */
    private static StillInAugust full() {
        StillInAugust x = house(LONGEST);
        for (int week = 0; week < 5; week++) {
            x.tell(week == 0 ? 200 : 0, 0);
            x.act(week == 0 ? 200 : 0);
            x.gone(0);
        }
        x.keep(0);
        x.keep(1);
        return x;
    }

    /** All that an object answers, the text and what was kept at last, since asking for those changes it. */
    private static List<Long> seen(StillInAugust x) {
        List<Long> seen = new ArrayList<>();
        seeTold(x, seen);
        seeLive(x, seen);
        seen.add((long) x.judge());
        seen.add((long) x.paid());
        seen.add(x.luck(true));
        seen.add(x.luck(false));
        seen.add((long) x.worst());
        seeReckoned(x, seen);
        for (int slot = 0; slot < 2; slot++) {
            seen.add((long) x.again(slot));
            seeLive(x, seen);
            x.gone(0);
            seeLive(x, seen);
        }
        seen.add((long) x.fault(false));
        seen.add((long) x.fault(true));
        seen.add((long) x.rule(0));
        seen.add((long) x.make());
        seeTold(x, seen);
        return seen;
    }

    private static void seeTold(StillInAugust x, List<Long> seen) {
        for (int rule = 0; rule < 3; rule++) {
            for (int week = 0; week < 5; week++) {
                seen.add((long) x.level(rule, week));
            }
        }
        for (int n = 0; n < 8; n++) {
            seen.add((long) x.about(n));
            seen.add((long) x.count(n));
            seen.add((long) x.week(n, 0));
            seen.add((long) x.week(n, 1));
            seen.add((long) x.aged(n, 0));
            seen.add((long) x.aged(n, 1));
        }
    }

    private static void seeLive(StillInAugust x, List<Long> seen) {
        for (int what = 0; what < 5; what++) {
            seen.add((long) x.live(what));
        }
    }

    private static void seeReckoned(StillInAugust x, List<Long> seen) {
        seen.add((long) x.cheapest());
        for (int rule = 0; rule < 3; rule++) {
            seen.add(x.mean(rule, 0, 0, 0, true));
            seen.add(x.there(rule, 1, 1, true));
            seen.add(x.shortly(rule, 1, true));
            seen.add(x.idle(rule, 1, true));
        }
        seen.add(x.best(0, 0, 0, true));
        seen.add((long) x.bestAct(0, 0, 0));
        seen.add((long) x.bestAct(1, 1, 1));
        seen.add((long) x.shape(0));
        seen.add((long) x.against(1, 1));
        seen.add(x.without(5, true));
        seen.add(x.sunday(111, 2, true));
    }

    private static void changeNothing(Supplier<StillInAugust> made, Refused... calls) {
        List<Long> asItWas = seen(made.get());
        for (Refused refused : calls) {
            StillInAugust x = made.get();
            due(refused.call, refused.asked.applyAsLong(x), refused.refusal);
            holds(refused.call + ", refused, changes nothing", seen(x).equals(asItWas));
        }
    }

    private static void refusedTexts() {
        says("Terms", "What is refused changes nothing");
        changeNothing(EdgesOfRefusalsTests::underWay,
                new Refused("write(0)", OUTSIDE, x -> x.write(0, 48)),
                new Refused("write(9)", OUTSIDE, x -> x.write(9, 48)),
                new Refused("make()", STATE, StillInAugust::make),
                new Refused("rule(3)", UNKNOWN, x -> x.rule(3)),
                new Refused("rule(-1)", UNKNOWN, x -> x.rule(-1)),
                new Refused("level(3, 0)", UNKNOWN, x -> x.level(3, 0)),
                new Refused("week(2, 0)", UNKNOWN, x -> x.week(2, 0)),
                new Refused("week(0, 2)", OUTSIDE, x -> x.week(0, 2)),
                new Refused("aged(3, 0)", OUTSIDE, x -> x.aged(3, 0)),
                new Refused("about(8)", OUTSIDE, x -> x.about(8)));
        changeNothing(EdgesOfRefusalsTests::aheadOfMonday,
                new Refused("rule(0) of a house", STATE, x -> x.rule(0)),
                new Refused("rule(2) of a house", STATE, x -> x.rule(2)));
        changeNothing(EdgesOfRefusalsTests::full,
                new Refused("write(1), full", FULL, x -> x.write(1, 48)),
                new Refused("write(8), full", FULL, x -> x.write(8, -1)));
    }

    private static void refusedActs() {
        says("Terms", "What is refused changes nothing");
        changeNothing(EdgesOfRefusalsTests::underWay,
                new Refused("may(2, 0, 0)", UNKNOWN, x -> x.may(2, 0, 0)),
                new Refused("may(0, 4, 0)", OUTSIDE, x -> x.may(0, 4, 0)),
                new Refused("then(2, 0, 0)", UNKNOWN, x -> x.then(2, 0, 0)),
                new Refused("then(0, 0, 9999)", STATE, x -> x.then(0, 0, 9999)),
                new Refused("costs(0, 0, 3, 0)", OUTSIDE, x -> x.costs(0, 0, 3, 0)),
                new Refused("costs(0, 0, 0, 1000)", STATE, x -> x.costs(0, 0, 0, 1000)),
                new Refused("work(0, 0, 0, -1)", OUTSIDE, x -> x.work(0, 0, 0, -1, true)),
                new Refused("work(0, 0, 0, 10)", STATE, x -> x.work(0, 0, 0, 10, false)),
                new Refused("sunday(4, 0)", OUTSIDE, x -> x.sunday(4, 0, true)),
                new Refused("takes(3, 0, 0)", UNKNOWN, x -> x.takes(3, 0, 0)),
                new Refused("takes(0, 0, 4)", OUTSIDE, x -> x.takes(0, 0, 4)));
    }

    private static void refusedReckonings() {
        says("Terms", "What is refused changes nothing");
        changeNothing(EdgesOfRefusalsTests::underWay,
                new Refused("mean(3, 0, 0, 0)", UNKNOWN, x -> x.mean(3, 0, 0, 0, true)),
                new Refused("mean(0, 0, 4, 0)", OUTSIDE, x -> x.mean(0, 0, 4, 0, true)),
                new Refused("shortly(0, 2)", UNKNOWN, x -> x.shortly(0, 2, true)),
                new Refused("idle(0, 2)", UNKNOWN, x -> x.idle(0, 2, true)),
                new Refused("there(0, 3, 0)", UNKNOWN, x -> x.there(0, 3, 0, true)),
                new Refused("there(0, 0, 5)", OUTSIDE, x -> x.there(0, 0, 5, true)),
                new Refused("best(2, 0, 0)", UNKNOWN, x -> x.best(2, 0, 0, true)),
                new Refused("best(0, 4, 0)", OUTSIDE, x -> x.best(0, 4, 0, true)),
                new Refused("bestAct(0, 0, 3)", OUTSIDE, x -> x.bestAct(0, 0, 3)),
                new Refused("shape(2)", UNKNOWN, x -> x.shape(2)),
                new Refused("against(0, 5)", OUTSIDE, x -> x.against(0, 5)),
                new Refused("without(16)", OUTSIDE, x -> x.without(16, true)),
                new Refused("without(-1)", OUTSIDE, x -> x.without(-1, false)));
    }

    private static void refusedLive() {
        says("Terms", "What is refused changes nothing");
        changeNothing(EdgesOfRefusalsTests::underWay,
                new Refused("act(-1)", OUTSIDE, x -> x.act(-1)),
                new Refused("act(0), it was", STATE, x -> x.act(0)),
                new Refused("gone(445)", OUTSIDE, x -> x.gone(445)),
                new Refused("gone(111), not so many", STATE, x -> x.gone(111)),
                new Refused("live(5)", OUTSIDE, x -> x.live(5)),
                new Refused("keep(2)", UNKNOWN, x -> x.keep(2)),
                new Refused("again(2)", UNKNOWN, x -> x.again(2)),
                new Refused("again(0), none was kept", STATE, x -> x.again(0)));
        changeNothing(EdgesOfRefusalsTests::aheadOfMonday,
                new Refused("act(1), in the last WEEK", STATE, x -> x.act(1)),
                new Refused("act(9999)", STATE, x -> x.act(9999)),
                new Refused("gone(0), no MONDAY was", STATE, x -> x.gone(0)),
                new Refused("gone(10), no MONDAY was", STATE, x -> x.gone(10)));
        changeNothing(EdgesOfRefusalsTests::full,
                new Refused("act(0), over", STATE, x -> x.act(0)),
                new Refused("gone(0), over", STATE, x -> x.gone(0)),
                new Refused("gone(1), over", STATE, x -> x.gone(1)));
    }

    private static void refusedRows() {
        says("Terms", "What is refused changes nothing");
        changeNothing(EdgesOfRefusalsTests::underWay,
                new Refused("tell(-1, 0)", OUTSIDE, x -> x.tell(-1, 0)),
                new Refused("tell(0, 445)", OUTSIDE, x -> x.tell(0, 445)),
                new Refused("count(4)", OUTSIDE, x -> x.count(4)));
        changeNothing(EdgesOfRefusalsTests::aheadOfMonday,
                new Refused("paid(), not so", STATE, StillInAugust::paid),
                new Refused("luck(), not so", STATE, x -> x.luck(true)),
                new Refused("worst(), not so", STATE, StillInAugust::worst));
        changeNothing(EdgesOfRefusalsTests::full,
                new Refused("tell(0, 0), full", FULL, x -> x.tell(0, 0)),
                new Refused("tell(9999, 444), full", FULL, x -> x.tell(9999, 444)));
    }

    private static void firstNamed() {
        says("Terms", "REFUSALS, of several the first that a call names");
        StillInAugust x = underWay();
        due("rule(3), and a FAULT", told("X").rule(3), UNKNOWN);
        due("week(9, 9)", x.week(9, 9), UNKNOWN);
        due("may(9, 999, -1)", x.may(9, 999, -1), UNKNOWN);
        due("may(0, 999, 9999)", x.may(0, 999, 9999), OUTSIDE);
        due("then(9, 999, -1)", x.then(9, 999, -1), UNKNOWN);
        due("then(0, 999, 9999)", x.then(0, 999, 9999), OUTSIDE);
        due("costs(9, 999, 9, -1)", x.costs(9, 999, 9, -1), UNKNOWN);
        due("costs(0, 0, 9, 9999)", x.costs(0, 0, 9, 9999), OUTSIDE);
        due("work(9, 999, 9, -1)", x.work(9, 999, 9, -1, false), UNKNOWN);
        due("work(0, 0, 9, 9999)", x.work(0, 0, 9, 9999, true), OUTSIDE);
        due("takes(9, 0, 999)", x.takes(9, 0, 999), UNKNOWN);
        due("takes(0, 9, 999)", x.takes(0, 9, 999), UNKNOWN);
        due("mean(9, 0, 999, 9)", x.mean(9, 0, 999, 9, true), UNKNOWN);
        due("mean(0, 9, 999, 9)", x.mean(0, 9, 999, 9, false), UNKNOWN);
        due("there(9, 0, 9)", x.there(9, 0, 9, true), UNKNOWN);
        due("there(0, 9, 9)", x.there(0, 9, 9, false), UNKNOWN);
        due("best(9, 999, 9)", x.best(9, 999, 9, true), UNKNOWN);
        due("bestAct(9, 999, 9)", x.bestAct(9, 999, 9), UNKNOWN);
        due("against(9, 9)", x.against(9, 9), UNKNOWN);
        due("act(-1), it was", x.act(-1), OUTSIDE);
        due("gone(445), not so many", x.gone(445), OUTSIDE);
        StillInAugust full = full();
        due("write(9), full", full.write(9, 0), OUTSIDE);
        due("write(0), full", full.write(0, 0), OUTSIDE);
        due("act(-1), over", full.act(-1), OUTSIDE);
        due("gone(500), over", full.gone(500), OUTSIDE);
        due("tell(10000, 0), full", full.tell(10000, 0), OUTSIDE);
        due("tell(0, 500), full", full.tell(0, 500), OUTSIDE);
    }

    private static void noSuchOnes() {
        says("Terms", "UNKNOWN (there is no such WEEK, RULE, SLOT)");
        StillInAugust x = underWay();
        int[] noWeek = {-1, 2, 5, LEAST, MOST};
        each("week(n, 0)", n -> x.week(n, 0), UNKNOWN, noWeek);
        each("may(n, 0, 0)", n -> x.may(n, 0, 0), UNKNOWN, noWeek);
        each("takes(0, n, 0)", n -> x.takes(0, n, 0), UNKNOWN, noWeek);
        each("shortly(0, n)", n -> x.shortly(0, n, true), UNKNOWN, noWeek);
        each("bestAct(n, 0, 0)", n -> x.bestAct(n, 0, 0), UNKNOWN, noWeek);
        each("shape(n)", x::shape, UNKNOWN, noWeek);
        int[] noRule = {-1, 3, LEAST, MOST};
        each("rule(n)", x::rule, UNKNOWN, noRule);
        each("level(n, 0)", n -> x.level(n, 0), UNKNOWN, noRule);
        each("mean(n, 0, 0, 0)", n -> x.mean(n, 0, 0, 0, true), UNKNOWN, noRule);
        int[] noSlot = {-1, 2, LEAST, MOST};
        each("keep(n)", x::keep, UNKNOWN, noSlot);
        each("again(n)", x::again, UNKNOWN, noSlot);
    }

    private static void notAsTold() {
        says("Terms", "OUTSIDE (another number is not as told)");
        StillInAugust x = underWay();
        int[] odd = {LEAST, -1, 1000000, MOST};
        each("write(n)", n -> x.write(n, 0), OUTSIDE, odd);
        each("week(0, n)", n -> x.week(0, n), OUTSIDE, odd);
        // an AGE is no WEEK, RULE or SLOT
        each("aged(n, 0)", n -> x.aged(n, 0), OUTSIDE, odd);
        each("about(n)", x::about, OUTSIDE, odd);
        each("may(0, n, 0)", n -> x.may(0, n, 0), OUTSIDE, odd);
        each("costs(0, 0, n, 0)", n -> x.costs(0, 0, n, 0), OUTSIDE, odd);
        each("there(0, 0, n)", n -> x.there(0, 0, n, true), OUTSIDE, odd);
        each("against(0, n)", n -> x.against(0, n), OUTSIDE, odd);
        each("without(n)", n -> x.without(n, false), OUTSIDE, odd);
        each("gone(n)", x::gone, OUTSIDE, odd);
        each("live(n)", x::live, OUTSIDE, odd);
        each("tell(n, 0)", n -> x.tell(n, 0), OUTSIDE, odd);
        each("tell(0, n)", n -> x.tell(0, n), OUTSIDE, odd);
        each("count(n)", x::count, OUTSIDE, odd);
    }

    private static void numbersOfRefusals() {
        says("The public face", "UNKNOWN = -1, OUTSIDE = -2, STATE = -3, FULL = -4, NONE = -9");
        due("UNKNOWN", StillInAugust.UNKNOWN, -1);
        due("OUTSIDE", StillInAugust.OUTSIDE, -2);
        due("STATE", StillInAugust.STATE, -3);
        due("FULL", StillInAugust.FULL, -4);
        says("Terms", "NONE is -9");
        due("NONE", StillInAugust.NONE, -9);
    }

    private static void leastTerms() {
        says("Terms", "FRACTIONS are told above (upper = true), below (1 and more), in least terms");
        StillInAugust x = house("N5H4O04O10O20O30O40P0");
        rule(x, 0, "L4");
        // nothing is 0/1, what is sure 1/1, a whole number n/1
        there(x, 0, 0, 3, 0, 1);
        there(x, 0, 0, 0, 1, 1);
        mean(x, 1, 0, 0, 0, 0, 1);
        idle(x, 0, 0, 16, 1);
        // each hand is there by 4/5 in WEEK 1: 16 of work by 256/625, and so on, are 64/5
        idle(x, 0, 1, 64, 5);
        // six of 625 by 16 of 625: 96/625, four by 64: 256/625
        sunday(x, 400, 20, 96, 625);
        sunday(x, 400, 30, 256, 625);
        sunday(x, 300, 30, 64, 125);
        sunday(x, 200, 20, 16, 25);
        sunday(x, 100, 10, 4, 5);
        sunday(x, 0, 0, 1, 1);
        // twenty fifths: the longest lower part that there is
        there(x, 0, 5, 4, 1099511627776L, 95367431640625L);
        make(x, "N1H4O04Q05");
        sunday(x, 400, 0, 1, 1);
        sunday(x, 400, 10, 0, 1);
    }

    private static void refusedFraction() {
        says("Terms", "refusals of them are told likewise");
        StillInAugust x = aheadOfMonday();
        sunday(x, 999, 0, OUTSIDE, OUTSIDE);
        mean(x, 3, 0, 0, 0, UNKNOWN, UNKNOWN);
        mean(x, 0, 0, 999, 0, OUTSIDE, OUTSIDE);
        shortly(x, 0, 9, UNKNOWN, UNKNOWN);
        idle(x, 9, 0, UNKNOWN, UNKNOWN);
        there(x, 0, 9, 0, UNKNOWN, UNKNOWN);
        there(x, 0, 0, 9, OUTSIDE, OUTSIDE);
        best(x, 9, 0, 0, UNKNOWN, UNKNOWN);
        best(x, 0, 0, 9, OUTSIDE, OUTSIDE);
        without(x, 99, OUTSIDE, OUTSIDE);
        luck(x, STATE, STATE);
    }

    private static void lastCall() {
        says("What it is", "An object is used for at most 512 calls after it has been made");
        StillInAugust x = new StillInAugust();
        x.write(6, 0x4E3548344234L);
        x.write(1, '1');
        x.make();
        for (int calls = 3; calls < 506; calls++) {
            // dear ones and cheap ones, refused and not
            switch (calls % 6) {
                case 0 -> x.make();
                case 1 -> x.best(0, 0, 0, true);
                case 2 -> x.without(calls % 16, true);
                case 3 -> x.write(9, 0);
                case 4 -> x.act(100);
                default -> x.tell(100, 0);
            }
        }
        due("call 507", x.count(1), 5);
        due("call 508", x.about(7), 4);
        due("call 509", x.make(), 5);
        due("call 510", x.keep(1), 1);
        due("call 511", x.act(100), 1);
        due("call 512", x.gone(0), 1);
    }

    public static void main(String[] args) {
        refusedTexts();
        refusedActs();
        refusedReckonings();
        refusedLive();
        refusedRows();
        firstNamed();
        noSuchOnes();
        notAsTold();
        numbersOfRefusals();
        leastTerms();
        refusedFraction();
        lastCall();
        end();
    }
}
