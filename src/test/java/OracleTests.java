import java.math.BigInteger;
import java.util.ArrayList;
import java.util.Collections;
import java.util.HashMap;
import java.util.HashSet;
import java.util.List;
import java.util.Map;
import java.util.Random;
import java.util.Set;
import java.util.TreeMap;
import java.util.regex.Matcher;
import java.util.regex.Pattern;

/** Houses, rules and summers by chance against a second reckoning that goes by each hand itself. */
public final class OracleTests {
    private static final int UNKNOWN = -1, OUTSIDE = -2, STATE = -3, FULL = -4, NONE = -9;
    private static final Random CHANCE = new Random(20261118L);
    private static int wrong = 0;
    private static String about = "";

    private static void due(String call, long got, long want) {
        if (got != want && ++wrong <= 40) {
            System.out.println(about + ": " + call + " answered " + got + ", due is " + want);
        }
    }

    private static void due(String call, long above, long below, Frac want) {
        due(call + " above", above, want.above.longValueExact());
        due(call + " below", below, want.below.longValueExact());
    }

    // ---- fractions

    private record Frac(BigInteger above, BigInteger below) {
        static final Frac ZERO = of(0, 1);
        static final Frac ONE = of(1, 1);

        static Frac of(long above, long below) {
            return of(BigInteger.valueOf(above), BigInteger.valueOf(below));
        }

        static Frac of(BigInteger above, BigInteger below) {
            BigInteger common = above.gcd(below);
            return new Frac(above.divide(common), below.divide(common));
        }

        Frac plus(Frac o) {
            return of(above.multiply(o.below).add(o.above.multiply(below)), below.multiply(o.below));
        }

        Frac times(Frac o) {
            return of(above.multiply(o.above), below.multiply(o.below));
        }

        Frac times(long n) {
            return times(of(n, 1));
        }

        boolean lessThan(Frac o) {
            return above.multiply(o.below).compareTo(o.above.multiply(below)) < 0;
        }
    }

    // ---- texts

    private static final Pattern HOUSE = Pattern.compile(
            "N[1-5](H[1-4]|W[0-4][0-9][0-9]|O[0-4][0-4]|Q[0-2][0-5]|D[0-2][0-9]|[PSGTA][0-9]|B[0-9][0-5])*");
    private static final Pattern PART = Pattern.compile("([WOQD])([0-9])[0-9]+|([NHPSGTAB])[0-9]+");
    private static final Pattern RULE = Pattern.compile("([0-4][0-4])*L[0-4]");

    private static boolean isHouse(String text) {
        if (!HOUSE.matcher(text).matches()) {
            return false;
        }
        Set<String> told = new HashSet<>();
        Matcher parts = PART.matcher(text);
        while (parts.find()) {
            String key = parts.group(1) == null ? parts.group(3) : parts.group(1) + parts.group(2);
            if (!told.add(key)) {
                return false;
            }
            if ((key.charAt(0) == 'W' || key.charAt(0) == 'O') && key.charAt(1) >= text.charAt(1)) {
                return false;
            }
        }
        return true;
    }

    private static boolean isRule(String text) {
        if (!RULE.matcher(text).matches()) {
            return false;
        }
        Set<Character> weeks = new HashSet<>();
        for (int i = 0; i < text.length() - 2; i += 2) {
            if (!weeks.add(text.charAt(i))) {
                return false;
            }
        }
        return true;
    }

    private static boolean is(String text, boolean rule) {
        return rule ? isRule(text) : isHouse(text);
    }

    /** Whether something can come behind so that it is a house or a rule: no end is longer than three bytes. */
    private static boolean canBecome(String start, boolean rule) {
        if (is(start, rule) || is(start + "N1", rule)) {
            return true;
        }
        for (String end : new String[] {"L0", "0L0", "1L0"}) {
            if (is(start + end, rule)) {
                return true;
            }
        }
        for (int figures = 0; figures < 1000; figures++) {
            String all = String.valueOf(1000 + figures).substring(1);
            if (is(start + all, rule) || is(start + all.substring(1), rule) || is(start + all.substring(2), rule)) {
                return true;
            }
        }
        return false;
    }

    private static int faultOf(String text, boolean rule) {
        for (int i = 0; i < text.length(); i++) {
            if (!canBecome(text.substring(0, i + 1), rule)) {
                return i;
            }
        }
        return is(text, rule) ? NONE : text.length();
    }

    private static void text(StillInAugust x, String text) {
        x.wipe();
        int at = 0;
        while (at < text.length()) {
            int n = Math.min(text.length() - at, 1 + CHANCE.nextInt(8));
            long v = CHANCE.nextLong();
            for (int i = 0; i < n; i++) {
                v = v << 8 | text.charAt(at + i);
            }
            at += n;
            due("write", x.write(n, v), at);
        }
    }

    private static String spoil(String text) {
        StringBuilder b = new StringBuilder(text);
        String signs = "0123456789NHWOQDPSGTABL" + (char) 200;
        for (int i = 1 + CHANCE.nextInt(2); i > 0; i--) {
            char sign = signs.charAt(CHANCE.nextInt(signs.length()));
            int place = CHANCE.nextInt(b.length() + 1);
            int kind = CHANCE.nextInt(4);
            if (kind == 0) {
                b.setLength(place);
            } else if (kind == 1) {
                b.insert(place, sign);
            } else if (place < b.length()) {
                if (kind == 2) {
                    b.setCharAt(place, sign);
                } else {
                    b.deleteCharAt(place);
                }
            }
        }
        return b.length() > 64 ? b.substring(0, 64) : b.toString();
    }

    private static void faults() {
        StillInAugust x = new StillInAugust();
        for (int i = 0; i < 600; i++) {
            x = i % 6 == 0 ? new StillInAugust() : x;
            Model m = new Model();
            boolean rule = i % 3 == 0;
            String text = rule ? ruleText(new int[6]) : m.text;
            about = "fault of " + spoilAndTell(x, text);
            due("fault(house)", x.fault(false), faultOf(lastText, false));
            due("fault(rule)", x.fault(true), faultOf(lastText, true));
            boolean house = isHouse(lastText);
            due("make()", x.make(), house ? lastText.charAt(1) - '0' : STATE);
            due("rule(1)", x.rule(1), isRule(lastText) ? lastText.length() / 2 - 1 : STATE);
        }
    }

    private static String lastText = "";

    private static String spoilAndTell(StillInAugust x, String text) {
        lastText = CHANCE.nextInt(5) == 0 ? text : spoil(text);
        text(x, lastText);
        return lastText;
    }

    private static String ruleText(int[] levels) {
        StringBuilder b = new StringBuilder();
        int other = CHANCE.nextInt(5);
        List<Integer> weeks = new ArrayList<>(List.of(0, 1, 2, 3, 4));
        Collections.shuffle(weeks, CHANCE);
        int exceptions = CHANCE.nextInt(6);
        for (int i = 0; i < 5; i++) {
            int week = weeks.get(i);
            levels[week] = i < exceptions ? CHANCE.nextInt(5) : other;
            if (i < exceptions) {
                b.append(week).append(levels[week]);
            }
        }
        levels[5] = exceptions;
        return b.append('L').append(other).toString();
    }

    // ---- the second reckoning

    private static final class Model {
        int weeks = 1 + CHANCE.nextInt(5);
        int hooks = 2;
        int[] wants = new int[5];
        int[] offers = {1, 1, 1, 1, 1};
        int[] goes = {1, 1, 1};
        int[] does = {4, 4, 4};
        int pay = 1;
        int shortPrice = 1;
        int letGo = NONE;
        int teach = NONE;
        int agency = NONE;
        int bonus = NONE;
        int less = 0;
        String text;
        Map<Integer, Map<Integer, Frac>> sundays = new HashMap<>();
        Map<Integer, Frac> bestOf = new HashMap<>();
        Map<Integer, Integer> actOf = new HashMap<>();

        Model() {
            do {
                text = tellParts();
            } while (text.length() > 64);
        }

        Model(Model m, int means) {
            weeks = m.weeks;
            hooks = m.hooks;
            wants = m.wants;
            offers = m.offers;
            goes = m.goes;
            does = m.does;
            pay = m.pay;
            shortPrice = m.shortPrice;
            letGo = (means & 1) == 0 ? m.letGo : NONE;
            teach = (means & 2) == 0 ? m.teach : NONE;
            agency = (means & 4) == 0 ? m.agency : NONE;
            bonus = (means & 8) == 0 ? m.bonus : NONE;
            less = (means & 8) == 0 ? m.less : 0;
        }

        /** The dearest house: the longest summer, the most hands, the highest prices. */
        static Model dearest() {
            Model m = new Model();
            m.weeks = 5;
            m.hooks = 4;
            m.wants = new int[] {99, 99, 99, 99, 99};
            m.offers = new int[] {4, 4, 4, 4, 4};
            m.goes = new int[] {2, 2, 2};
            m.does = new int[] {1, 4, 4};
            m.pay = m.shortPrice = m.letGo = m.teach = m.agency = m.bonus = 9;
            m.less = 1;
            m.text = "N5H4W099W199W299W399W499O04O14O24O34O44Q02Q12Q22D01P9S9G9T9A9B91";
            return m;
        }

        private boolean yes() {
            return CHANCE.nextInt(3) != 0;
        }

        private String tellParts() {
            List<String> parts = new ArrayList<>();
            hooks = 2;
            if (yes()) {
                parts.add("H" + (hooks = 1 + CHANCE.nextInt(4)));
            }
            int most = CHANCE.nextBoolean() ? 30 : 100;
            for (int w = 0; w < weeks; w++) {
                wants[w] = 0;
                offers[w] = 1;
                if (yes()) {
                    wants[w] = CHANCE.nextInt(most);
                    parts.add("W" + w + wants[w] / 10 + wants[w] % 10);
                }
                if (yes()) {
                    parts.add("O" + w + (offers[w] = CHANCE.nextInt(5)));
                }
            }
            for (int a = 0; a < 3; a++) {
                goes[a] = 1;
                does[a] = 4;
                if (yes()) {
                    parts.add("Q" + a + (goes[a] = CHANCE.nextInt(6)));
                }
                if (yes()) {
                    parts.add("D" + a + (does[a] = CHANCE.nextInt(10)));
                }
            }
            pay = shortPrice = 1;
            letGo = teach = agency = bonus = NONE;
            less = 0;
            if (yes()) {
                parts.add("P" + (pay = CHANCE.nextInt(10)));
            }
            if (yes()) {
                parts.add("S" + (shortPrice = CHANCE.nextInt(10)));
            }
            if (yes()) {
                parts.add("G" + (letGo = CHANCE.nextInt(10)));
            }
            if (yes()) {
                parts.add("T" + (teach = CHANCE.nextInt(10)));
            }
            if (yes()) {
                parts.add("A" + (agency = CHANCE.nextInt(10)));
            }
            if (yes()) {
                parts.add("B" + (bonus = CHANCE.nextInt(10)) + (less = CHANCE.nextInt(6)));
            }
            Collections.shuffle(parts, CHANCE);
            return "N" + weeks + String.join("", parts);
        }

        Frac goesChance(int age) {
            return Frac.of(Math.max(0, goes[age] - less), 5);
        }

        List<Integer> ages(int hands) {
            List<Integer> ages = new ArrayList<>();
            for (int i = 0; i < hands / 100; i++) {
                ages.add(0);
            }
            for (int i = 0; i < hands / 10 % 10; i++) {
                ages.add(1);
            }
            for (int i = 0; i < hands % 10; i++) {
                ages.add(2);
            }
            return ages;
        }

        static int number(List<Integer> ages) {
            int n = 0;
            for (int age : ages) {
                n += age == 0 ? 100 : age == 1 ? 10 : 1;
            }
            return n;
        }

        boolean isHands(int hands) {
            return hands >= 0 && hands < 1000 && ages(hands).size() <= hooks;
        }

        List<Integer> allHands() {
            List<Integer> all = new ArrayList<>();
            for (int hands = 0; hands < 1000; hands++) {
                if (isHands(hands)) {
                    all.add(hands);
                }
            }
            return all;
        }

        int mostComing() {
            return agency == NONE ? 0 : 2;
        }

        /** HANDS that do the WEEK, NONE: the act may not be. */
        int done(int week, int hands, int act) {
            List<Integer> ages = ages(hands);
            int g = act / 1000;
            int t = act / 100 % 10;
            int e = act / 10 % 10;
            int o = act % 10;
            if (g > 0 && (letGo == NONE || g > ages.size())) {
                return NONE;
            }
            for (int i = 0; i < g; i++) {
                ages.remove(0);
            }
            if (t > offers[week] || ages.size() + t > hooks) {
                return NONE;
            }
            for (int i = 0; i < t; i++) {
                ages.add(0);
            }
            if (e > 1 || e == 1 && (teach == NONE || !ages.contains(0) || !ages.contains(2))) {
                return NONE;
            }
            if (e == 1) {
                ages.set(ages.indexOf(0), 1);
            }
            if (o > 2 || o > 0 && (agency == NONE || week + 1 == weeks)) {
                return NONE;
            }
            return number(ages);
        }

        int workLess(int week, int done, int coming, int act) {
            int work = 0;
            List<Integer> ages = ages(done);
            if (act / 10 % 10 == 1) {
                ages.remove(Integer.valueOf(2));
            }
            for (int age : ages) {
                work += does[age];
            }
            return wants[week] - work - coming * does[2];
        }

        int cost(int week, int done, int coming, int act) {
            int cost = pay * ages(done).size();
            int lack = workLess(week, done, coming, act);
            cost += lack > 0 ? shortPrice * lack : 0;
            cost += act >= 1000 ? letGo * (act / 1000) : 0;
            cost += act / 10 % 10 == 1 ? teach : 0;
            cost += coming > 0 ? agency * coming : 0;
            return cost;
        }

        Map<Integer, Frac> sunday(int hands) {
            Map<Integer, Frac> known = sundays.get(hands);
            if (known == null) {
                known = new TreeMap<>();
                leave(ages(hands), 0, new ArrayList<>(), new ArrayList<>(), Frac.ONE, known, null);
                sundays.put(hands, known);
            }
            return known;
        }

        Map<Integer, Frac> leavers(int hands) {
            Map<Integer, Frac> known = new TreeMap<>();
            leave(ages(hands), 0, new ArrayList<>(), new ArrayList<>(), Frac.ONE, null, known);
            return known;
        }

        private void leave(List<Integer> ages, int i, List<Integer> stay, List<Integer> go, Frac chance,
                Map<Integer, Frac> byStay, Map<Integer, Frac> byGo) {
            if (chance.equals(Frac.ZERO)) {
                return;
            }
            if (i == ages.size()) {
                if (byStay != null) {
                    byStay.merge(number(stay), chance, Frac::plus);
                }
                if (byGo != null) {
                    byGo.merge(number(go), chance, Frac::plus);
                }
                return;
            }
            int age = ages.get(i);
            Frac goes = goesChance(age);
            go.add(age);
            leave(ages, i + 1, stay, go, chance.times(goes), byStay, byGo);
            go.remove(go.size() - 1);
            stay.add(Math.min(2, age + 1));
            leave(ages, i + 1, stay, go, chance.times(Frac.ONE.plus(goes.times(-1))), byStay, byGo);
            stay.remove(stay.size() - 1);
        }

        int byLevel(int week, int hands, int level) {
            int n = ages(hands).size();
            int taken = 0;
            while (taken < offers[week] && n + taken < hooks && n + taken < level) {
                taken++;
            }
            return taken;
        }

        Frac end(int hands) {
            return bonus == NONE ? Frac.ZERO : Frac.of((long) bonus * ages(hands).size(), 1);
        }

        Frac mean(int[] levels, int week, int hands, int coming) {
            if (week == weeks) {
                return end(hands);
            }
            int act = 100 * byLevel(week, hands, levels[week]);
            int done = done(week, hands, act);
            Frac sum = Frac.of(cost(week, done, coming, act), 1);
            for (Map.Entry<Integer, Frac> e : sunday(done).entrySet()) {
                sum = sum.plus(e.getValue().times(mean(levels, week + 1, e.getKey(), 0)));
            }
            return sum;
        }

        /** How likely each HANDS are ahead of a WEEK by the levels. */
        Map<Integer, Frac> ahead(int[] levels, int week) {
            Map<Integer, Frac> now = new TreeMap<>(Map.of(0, Frac.ONE));
            for (int w = 0; w < week; w++) {
                Map<Integer, Frac> next = new TreeMap<>();
                for (Map.Entry<Integer, Frac> from : now.entrySet()) {
                    int done = done(w, from.getKey(), 100 * byLevel(w, from.getKey(), levels[w]));
                    for (Map.Entry<Integer, Frac> to : sunday(done).entrySet()) {
                        next.merge(to.getKey(), to.getValue().times(from.getValue()), Frac::plus);
                    }
                }
                now = next;
            }
            return now;
        }

        Frac best(int week, int hands, int coming) {
            if (week == weeks) {
                return end(hands);
            }
            int key = (week * 3 + coming) * 1000 + hands;
            Frac known = bestOf.get(key);
            if (known != null) {
                return known;
            }
            for (int act = 0; act < 4420; act++) {
                if (act % 10 > 2 || act / 10 % 10 > 1 || act / 100 % 10 > 4) {
                    continue;
                }
                int done = done(week, hands, act);
                if (done == NONE) {
                    continue;
                }
                Frac sum = Frac.of(cost(week, done, coming, act), 1);
                for (Map.Entry<Integer, Frac> e : sunday(done).entrySet()) {
                    sum = sum.plus(e.getValue().times(best(week + 1, e.getKey(), act % 10)));
                }
                if (known == null || sum.lessThan(known)) {
                    known = sum;
                    actOf.put(key, act);
                }
            }
            bestOf.put(key, known);
            return known;
        }

        int bestAct(int week, int hands, int coming) {
            best(week, hands, coming);
            return actOf.get((week * 3 + coming) * 1000 + hands);
        }
    }

    // ---- what is asked

    private static String lastHouse = "N1";

    /** A new object, since one is good for 512 calls: it was another house, and is this one now. */
    private static StillInAugust lived(Model m) {
        StillInAugust x = new StillInAugust();
        text(x, lastHouse);
        x.make();
        x.without(x.about(0), true);
        x.bestAct(0, 0, 0);
        x.act(100);
        text(x, m.text);
        due("make()", x.make(), m.weeks);
        return x;
    }

    private static void told(StillInAugust x, Model m) {
        for (int w = -1; w <= m.weeks; w++) {
            boolean has = w >= 0 && w < m.weeks;
            due("week(" + w + ", 0)", x.week(w, 0), has ? m.wants[w] : UNKNOWN);
            due("week(" + w + ", 1)", x.week(w, 1), has ? m.offers[w] : UNKNOWN);
        }
        for (int a = 0; a < 3; a++) {
            due("aged(" + a + ", 0)", x.aged(a, 0), Math.max(0, m.goes[a] - m.less));
            due("aged(" + a + ", 1)", x.aged(a, 1), m.does[a]);
        }
        int[] numbers = {m.weeks, m.hooks, m.pay, m.shortPrice, m.letGo, m.teach, m.agency, m.bonus};
        for (int what = 0; what < 8; what++) {
            due("about(" + what + ")", x.about(what), numbers[what]);
        }
    }

    private static int anyAct() {
        return CHANCE.nextInt(4) * CHANCE.nextInt(2) * 1000 + CHANCE.nextInt(4) * 100
                + CHANCE.nextInt(5) / 3 * 10 + CHANCE.nextInt(6) / 3;
    }

    private static int anyHands(Model m) {
        List<Integer> all = m.allHands();
        return CHANCE.nextInt(12) == 0 ? CHANCE.nextInt(1100) - 20 : all.get(CHANCE.nextInt(all.size()));
    }

    private static void acts(StillInAugust x, Model m) {
        for (int i = 0; i < 60; i++) {
            int week = CHANCE.nextInt(m.weeks);
            int hands = anyHands(m);
            int coming = CHANCE.nextInt(3);
            int act = anyAct();
            String call = "(" + week + ", " + hands + ", " + coming + ", " + act + ")";
            boolean outside = !m.isHands(hands);
            int done = outside ? OUTSIDE : m.done(week, hands, act);
            due("may" + call, x.may(week, hands, act), outside ? OUTSIDE : done == NONE ? 0 : 1);
            due("then" + call, x.then(week, hands, act), done == NONE ? STATE : done);
            boolean comes = coming <= m.mostComing();
            int refusal = outside || !comes ? OUTSIDE : done == NONE ? STATE : 0;
            due("costs" + call, x.costs(week, hands, coming, act),
                    refusal != 0 ? refusal : m.cost(week, done, coming, act));
            int lack = refusal != 0 ? 0 : m.workLess(week, done, coming, act);
            due("work short" + call, x.work(week, hands, coming, act, false),
                    refusal != 0 ? refusal : Math.max(0, lack));
            due("work idle" + call, x.work(week, hands, coming, act, true),
                    refusal != 0 ? refusal : Math.max(0, -lack));
        }
    }

    private static void sundays(Model m) {
        for (int hands : m.allHands()) {
            StillInAugust x = lived(m);
            Map<Integer, Frac> next = m.sunday(hands);
            for (int others : new int[] {0, 1, 2, 3, 4, 10, 11, 12, 13, 20, 21, 22, 30, 31, 40, 100, 5, -1}) {
                due("sunday(" + hands + ", " + others + ")", x.sunday(hands, others, true),
                        x.sunday(hands, others, false), next.getOrDefault(others, Frac.ZERO));
            }
        }
    }

    private static void byRules(StillInAugust x, Model m) {
        int[][] levels = new int[3][6];
        int cheapest = 0;
        Frac[] means = new Frac[3];
        for (int rule = 0; rule < 3; rule++) {
            text(x, ruleText(levels[rule]));
            due("rule(" + rule + ")", x.rule(rule), levels[rule][5]);
            means[rule] = m.mean(levels[rule], 0, 0, 0);
            cheapest = means[rule].lessThan(means[cheapest]) ? rule : cheapest;
        }
        due("cheapest()", x.cheapest(), cheapest);
        for (int rule = 0; rule < 3; rule++) {
            due("mean(" + rule + ")", x.mean(rule, 0, 0, 0, true), x.mean(rule, 0, 0, 0, false), means[rule]);
            for (int week = 0; week < 5; week++) {
                due("level(" + rule + ", " + week + ")", x.level(rule, week), levels[rule][week]);
            }
            for (int week = 0; week <= m.weeks; week++) {
                byRule(x, m, rule, levels[rule], week);
            }
        }
    }

    private static void byRule(StillInAugust x, Model m, int rule, int[] levels, int week) {
        Map<Integer, Frac> ahead = m.ahead(levels, week);
        Frac[] there = {Frac.ZERO, Frac.ZERO, Frac.ZERO, Frac.ZERO, Frac.ZERO};
        Frac shortly = Frac.ZERO;
        Frac idle = Frac.ZERO;
        for (Map.Entry<Integer, Frac> e : ahead.entrySet()) {
            int n = m.ages(e.getKey()).size();
            there[n] = there[n].plus(e.getValue());
            if (week < m.weeks) {
                int act = 100 * m.byLevel(week, e.getKey(), levels[week]);
                int lack = m.workLess(week, m.done(week, e.getKey(), act), 0, act);
                shortly = shortly.plus(lack > 0 ? e.getValue() : Frac.ZERO);
                idle = idle.plus(e.getValue().times(Math.max(0, -lack)));
            }
        }
        String call = "(" + rule + ", " + week + ")";
        for (int n = 0; n <= 4; n++) {
            due("there" + call + n, x.there(rule, week, n, true), x.there(rule, week, n, false), there[n]);
        }
        if (week < m.weeks) {
            due("shortly" + call, x.shortly(rule, week, true), x.shortly(rule, week, false), shortly);
            due("idle" + call, x.idle(rule, week, true), x.idle(rule, week, false), idle);
            int hands = m.allHands().get(CHANCE.nextInt(m.allHands().size()));
            int coming = CHANCE.nextInt(m.mostComing() + 1);
            due("takes" + call + hands, x.takes(rule, week, hands), m.byLevel(week, hands, levels[week]));
            due("mean" + call + hands + ", " + coming, x.mean(rule, week, hands, coming, true),
                    x.mean(rule, week, hands, coming, false), m.mean(levels, week, hands, coming));
        }
    }

    private static void bests(Model m) {
        for (int week = 0; week < m.weeks; week++) {
            StillInAugust x = lived(m);
            for (int hands : m.allHands()) {
                for (int coming = 0; coming <= m.mostComing(); coming++) {
                    String call = "(" + week + ", " + hands + ", " + coming + ")";
                    due("best" + call, x.best(week, hands, coming, true), x.best(week, hands, coming, false),
                            m.best(week, hands, coming));
                    due("bestAct" + call, x.bestAct(week, hands, coming), m.bestAct(week, hands, coming));
                }
            }
            int shape = NONE;
            for (int level = 4; level >= 0; level--) {
                int against = NONE;
                for (int hands : m.allHands()) {
                    boolean like = m.bestAct(week, hands, 0) / 100 % 10 == m.byLevel(week, hands, level);
                    against = against == NONE && !like ? hands : against;
                }
                due("against(" + week + ", " + level + ")", x.against(week, level), against);
                shape = against == NONE ? level : shape;
            }
            due("shape(" + week + ")", x.shape(week), shape);
        }
        StillInAugust x = lived(m);
        for (int i = 0; i < 3; i++) {
            int means = CHANCE.nextInt(16);
            due("without(" + means + ")", x.without(means, true), x.without(means, false),
                    new Model(m, means).best(0, 0, 0));
        }
    }

    /** A summer by chance, live and told as a row. */
    private static void summers(Model m) {
        for (int i = 0; i < 6; i++) {
            StillInAugust x = lived(m);
            int hands = 0;
            int coming = 0;
            int costs = 0;
            int most = 0;
            int worst = NONE;
            Frac luck = Frac.ONE;
            int wrongWeek = NONE;
            for (int week = 0; week < m.weeks; week++) {
                due("live(0)", x.live(0), week);
                due("live(1)", x.live(1), hands);
                due("live(2)", x.live(2), coming);
                due("live(3)", x.live(3), 0);
                due("live(4)", x.live(4), costs);
                int act = anyAct();
                int done = m.done(week, hands, act);
                if (done == NONE) {
                    due("act(" + act + ")", x.act(act), STATE);
                    act = 0;
                    done = hands;
                }
                int cost = m.cost(week, done, coming, act);
                due("act(" + act + ")", x.act(act), cost);
                costs += cost;
                int lost = m.shortPrice * m.workLess(week, done, coming, act);
                if (lost > most) {
                    most = lost;
                    worst = week;
                }
                int gone = CHANCE.nextInt(10) == 0 ? 100 * CHANCE.nextInt(3) + 10 * CHANCE.nextInt(3)
                        : 100 * CHANCE.nextInt(done / 100 + 1) + 10 * CHANCE.nextInt(done / 10 % 10 + 1)
                        + CHANCE.nextInt(done % 10 + 1);
                List<Integer> left = m.ages(done);
                boolean enough = true;
                for (int age : m.ages(gone)) {
                    enough &= left.remove(Integer.valueOf(age));
                }
                if (!enough) {
                    due("gone(" + gone + ")", x.gone(gone), STATE);
                    gone = 0;
                    left = m.ages(done);
                }
                due("gone(" + gone + ")", x.gone(gone), left.size());
                x.tell(act, gone);
                Frac chance = m.leavers(done).getOrDefault(gone, Frac.ZERO);
                luck = luck.times(chance);
                wrongWeek = wrongWeek == NONE && chance.equals(Frac.ZERO) ? week : wrongWeek;
                left.replaceAll(age -> Math.min(2, age + 1));
                hands = Model.number(left);
                coming = act % 10;
                costs += week + 1 == m.weeks && m.bonus != NONE ? m.bonus * left.size() : 0;
                judged(x, wrongWeek, costs, luck, worst);
            }
            due("live(0), over", x.live(0), m.weeks);
            due("live(4), over", x.live(4), costs);
            if (m.weeks < 5) {
                x.tell(0, 0);
                judged(x, wrongWeek == NONE ? m.weeks : wrongWeek, 0, luck, worst);
            }
        }
    }

    private static void judged(StillInAugust x, int wrongWeek, int costs, Frac luck, int worst) {
        due("judge()", x.judge(), wrongWeek);
        due("paid()", x.paid(), wrongWeek != NONE ? STATE : costs);
        due("worst()", x.worst(), wrongWeek != NONE ? STATE : worst);
        if (wrongWeek != NONE) {
            due("luck()", x.luck(true), STATE);
            due("luck()", x.luck(false), STATE);
        } else {
            due("luck()", x.luck(true), x.luck(false), luck);
        }
    }

    /** Every call with every kind of odd number: none throws. */
    private static void oddNumbers() {
        int[] odd = {Integer.MIN_VALUE, -1000, -10, -1, 0, 1, 2, 4, 5, 9, 40, 99, 400, 444, 999, 1000, 4444, 9999,
            Integer.MAX_VALUE};
        for (int i = 0; i < 30; i++) {
            Model m = new Model();
            StillInAugust x = new StillInAugust();
            about = "odd numbers in " + m.text;
            text(x, m.text);
            x.make();
            for (int calls = 0; calls < 400; calls++) {
                int a = odd[CHANCE.nextInt(odd.length)];
                int b = odd[CHANCE.nextInt(odd.length)];
                int c = odd[CHANCE.nextInt(odd.length)];
                int d = odd[CHANCE.nextInt(odd.length)];
                boolean f = CHANCE.nextBoolean();
                oddCall(x, CHANCE.nextInt(30), new int[] {a, b, c, d}, f);
            }
        }
    }

    private static void oddCall(StillInAugust x, int which, int[] n, boolean f) {
        switch (which) {
            case 0 -> x.write(n[0], n[1]);
            case 1 -> x.fault(f);
            case 2 -> x.make();
            case 3 -> x.rule(n[0]);
            case 4 -> x.level(n[0], n[1]);
            case 5 -> x.week(n[0], n[1]);
            case 6 -> x.aged(n[0], n[1]);
            case 7 -> x.about(n[0]);
            case 8 -> x.may(n[0], n[1], n[2]);
            case 9 -> x.then(n[0], n[1], n[2]);
            case 10 -> x.costs(n[0], n[1], n[2], n[3]);
            case 11 -> x.work(n[0], n[1], n[2], n[3], f);
            case 12 -> x.sunday(n[0], n[1], f);
            case 13 -> x.takes(n[0], n[1], n[2]);
            case 14 -> x.mean(n[0], n[1], n[2], n[3], f);
            case 15 -> x.shortly(n[0], n[1], f);
            case 16 -> x.idle(n[0], n[1], f);
            case 17 -> x.there(n[0], n[1], n[2], f);
            case 18 -> x.best(n[0], n[1], n[2], f);
            case 19 -> x.bestAct(n[0], n[1], n[2]);
            case 20 -> x.shape(n[0]);
            case 21 -> x.against(n[0], n[1]);
            case 22 -> x.without(n[0], f);
            case 23 -> x.act(n[0]);
            case 24 -> x.gone(n[0]);
            case 25 -> x.live(n[0]);
            case 26 -> x.keep(n[0]);
            case 27 -> x.again(n[0]);
            case 28 -> x.tell(n[0], n[1]);
            default -> x.count(n[0]);
        }
    }

    public static void main(String[] args) {
        faults();
        for (int i = 0; i < 60; i++) {
            Model m = i == 0 ? Model.dearest() : new Model();
            about = m.text;
            told(lived(m), m);
            acts(lived(m), m);
            sundays(m);
            byRules(lived(m), m);
            bests(m);
            summers(m);
            lastHouse = m.text;
        }
        oddNumbers();
        System.out.println(wrong == 0 ? "all answers are as due" : wrong + " answers are not as due");
        if (wrong != 0) {
            System.exit(1);
        }
    }
}
