import java.util.function.IntToLongFunction;

/** What the tests share: texts told, calls asked, and each answer that is not the one due printed with its place. */
abstract class Checks {
    static final int UNKNOWN = -1, OUTSIDE = -2, STATE = -3, FULL = -4, NONE = -9;
    static final int LEAST = Integer.MIN_VALUE, MOST = Integer.MAX_VALUE;
    static final String FIGURES = "0123456789";

    /** All means; chances with the bonus 1, 0, 0 fifths; hands do 2, 3, 5. */
    static final String RICH = "N2H3W010W112O02O13Q02Q11Q20D02D13D25P2S3G4T1A6B71";
    /** One hook; who stays does 9 instead of 4. */
    static final String SMALL = "N2H1W005W105Q02D19";
    /** A house of just 64 bytes. */
    static final String LONGEST = "N5H4W099W199W299W399W499O04O14O24O34O44Q02Q12Q22D01P9S9G9T9A9B91";

    private static int wrong = 0;
    private static String place = "";

    /** A fraction, by its upper or its lower part. */
    interface Fraction {
        long part(boolean upper);
    }

    /** A fraction that a number is asked for. */
    interface FractionOf {
        long part(int n, boolean upper);
    }

    static void promise(int number) {
        place = "promise " + number;
    }

    /** The document's words that the next checks hold the class to. */
    static void says(String where, String words) {
        place = where + " \"" + words + "\"";
    }

    static void due(String call, long got, long want) {
        if (got != want) {
            wrong++;
            System.out.println(place + ": " + call + " answered " + got + ", due is " + want);
        }
    }

    static void holds(String what, boolean holds) {
        if (!holds) {
            wrong++;
            System.out.println(place + ": it does not hold that " + what);
        }
    }

    /** The same answer is due for each of these numbers. */
    static void each(String call, IntToLongFunction asked, long want, int... numbers) {
        for (int n : numbers) {
            due(call + " of " + n, asked.applyAsLong(n), want);
        }
    }

    static void fraction(String call, Fraction asked, long above, long below) {
        due(call + " above", asked.part(true), above);
        due(call + " below", asked.part(false), below);
    }

    /** The same refusal is due, above and below, for each of these numbers. */
    static void refusedFractions(String call, FractionOf asked, int refusal, int... numbers) {
        for (int n : numbers) {
            fraction(call + " of " + n, upper -> asked.part(n, upper), refusal, refusal);
        }
    }

    static void text(StillInAugust x, String text) {
        x.wipe();
        for (int i = 0; i < text.length(); i++) {
            x.write(1, text.charAt(i));
        }
    }

    static StillInAugust told(String text) {
        StillInAugust x = new StillInAugust();
        text(x, text);
        return x;
    }

    static StillInAugust house(String text) {
        StillInAugust x = new StillInAugust();
        make(x, text);
        return x;
    }

    static void make(StillInAugust x, String text) {
        text(x, text);
        holds(text + " is a house", x.make() >= 1);
    }

    static void rule(StillInAugust x, int rule, String text) {
        text(x, text);
        holds(text + " is a rule", x.rule(rule) >= 0);
    }

    static void mean(StillInAugust x, int rule, int week, int hands, int coming, long above, long below) {
        fraction("mean(" + rule + ", " + week + ", " + hands + ", " + coming + ")",
                upper -> x.mean(rule, week, hands, coming, upper), above, below);
    }

    static void best(StillInAugust x, int week, int hands, int coming, long above, long below) {
        fraction("best(" + week + ", " + hands + ", " + coming + ")",
                upper -> x.best(week, hands, coming, upper), above, below);
    }

    static void sunday(StillInAugust x, int hands, int others, long above, long below) {
        fraction("sunday(" + hands + ", " + others + ")", upper -> x.sunday(hands, others, upper), above, below);
    }

    static void there(StillInAugust x, int rule, int week, int n, long above, long below) {
        fraction("there(" + rule + ", " + week + ", " + n + ")",
                upper -> x.there(rule, week, n, upper), above, below);
    }

    static void shortly(StillInAugust x, int rule, int week, long above, long below) {
        fraction("shortly(" + rule + ", " + week + ")", upper -> x.shortly(rule, week, upper), above, below);
    }

    static void idle(StillInAugust x, int rule, int week, long above, long below) {
        fraction("idle(" + rule + ", " + week + ")", upper -> x.idle(rule, week, upper), above, below);
    }

    static void without(StillInAugust x, int means, long above, long below) {
        fraction("without(" + means + ")", upper -> x.without(means, upper), above, below);
    }

    static void luck(StillInAugust x, long above, long below) {
        fraction("luck()", x::luck, above, below);
    }

    static void live(StillInAugust x, int week, int hands, int coming, int worked, int costs) {
        int[] wanted = {week, hands, coming, worked, costs};
        for (int what = 0; what < wanted.length; what++) {
            due("live(" + what + ")", x.live(what), wanted[what]);
        }
    }

    /** Says how it went; a test that fails ends with 1. */
    static void end() {
        System.out.println(wrong == 0 ? "all answers are as due" : wrong + " answers are not as due");
        if (wrong != 0) {
            System.exit(1);
        }
    }
}
