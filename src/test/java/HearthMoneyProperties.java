import java.nio.charset.StandardCharsets;
import java.util.ArrayList;
import java.util.Arrays;
import java.util.List;
import java.util.Random;
import java.util.function.IntSupplier;

/** Random parishes and laws: answers against acts done for real, and against laws worked out here. */
public final class HearthMoneyProperties {
    private static final int NONE = HearthMoney.NONE;
    private static int wrong = 0;
    private static String where = "";

    private static void due(String call, int got, int want) {
        if (got != want && wrong++ < 40) {
            System.out.println(where + ": " + call + " answered " + got + ", due is " + want);
        }
    }

    /** What a condition may speak of. */
    private record Facts(boolean paper, int kind, int house, int flue, int warm, int hearths, int windows, int quarter) {
    }

    private interface Truth {
        boolean of(Facts f);
    }

    private interface Sum {
        int of(Facts f);
    }

    private record Written<T>(String text, T means) {
    }

    private record Line(String sort, int number, Truth holds) {
    }

    private static final class Maker {
        final Random random;
        final List<Line> lines = new ArrayList<>();
        boolean hasLaw = false;

        Maker(long seed) {
            random = new Random(seed);
        }

        int below(int n) {
            return random.nextInt(n);
        }

        String blanks() {
            return " ".repeat(1 + (below(6) == 0 ? below(3) : 0));
        }

        Written<Sum> part() {
            switch (below(8)) {
                case 0: return new Written<>("house", f -> f.house);
                case 1: return new Written<>("flue", f -> f.flue);
                case 2: return new Written<>("warm", f -> f.warm);
                case 3: return new Written<>("hearths", f -> f.hearths);
                case 4: return new Written<>("windows", f -> f.windows);
                case 5: return new Written<>("quarter", f -> f.quarter);
                default:
                    int n = below(12);
                    return new Written<>((below(4) == 0 ? "0" : "") + n, f -> n);
            }
        }

        Written<Sum> sum() {
            Written<Sum> left = part();
            if (below(3) > 0) {
                return left;
            }
            Written<Sum> right = sum();
            return new Written<>(left.text + "+" + right.text, f -> left.means.of(f) + right.means.of(f));
        }

        Written<Truth> atom(int depth) {
            int pick = below(depth >= 6 ? 4 : 7);
            if (pick == 4 || pick == 5) {
                Written<Truth> inner = atom(depth + 1);
                return new Written<>("not" + blanks() + inner.text, f -> !inner.means.of(f));
            }
            if (pick == 6) {
                Written<Truth> inner = condition(depth + 1);
                return new Written<>("(" + inner.text + ")", inner.means);
            }
            if (pick == 0) {
                return new Written<>("paper", f -> f.paper);
            }
            if (pick == 1) {
                int kind = below(4);
                return new Written<>(new String[] {"fire", "oven", "forge", "pot"}[kind], f -> f.kind == kind);
            }
            Written<Sum> left = sum();
            Written<Sum> right = sum();
            boolean less = below(2) == 0;
            return new Written<>(left.text + (less ? "<" : " > ") + right.text,
                f -> less ? left.means.of(f) < right.means.of(f) : left.means.of(f) > right.means.of(f));
        }

        Written<Truth> all(int depth) {
            Written<Truth> left = atom(depth);
            if (below(3) > 0) {
                return left;
            }
            Written<Truth> right = all(depth);
            return new Written<>(left.text + blanks() + "and" + blanks() + right.text, f -> left.means.of(f) && right.means.of(f));
        }

        Written<Truth> condition(int depth) {
            Written<Truth> left = all(depth);
            if (below(3) > 0) {
                return left;
            }
            Written<Truth> right = condition(depth);
            return new Written<>(left.text + " or " + right.text, f -> left.means.of(f) || right.means.of(f));
        }

        /** A text of a law of at most 400 bytes; its lines stand in this maker. */
        String law() {
            hasLaw = true;
            lines.clear();
            StringBuilder text = new StringBuilder();
            int many = below(9);
            for (int i = 0; i < many; i++) {
                String sort = below(5) == 0 ? "free" : below(2) == 0 ? "tax" : "find";
                int number = below(sort.equals("tax") ? 9 : 80);
                Written<Truth> c = below(5) == 0 && !sort.equals("free") ? new Written<>("", f -> true) : condition(0);
                String line = sort + (sort.equals("free") ? "" : blanks() + number) + (c.text.isEmpty() ? "" : blanks() + "if " + c.text);
                if (text.length() + line.length() + 3 > 400) {
                    break;
                }
                text.append(lines.isEmpty() ? "" : ";").append(line);
                lines.add(new Line(sort, number, c.means));
            }
            return text.append(below(3) == 0 ? " " : "").toString();
        }

        int sum(String sort, Facts f) {
            int sum = 0;
            for (Line line : lines) {
                if (line.sort.equals(sort) && line.holds.of(f)) {
                    sum += sort.equals("free") ? 1 : line.number;
                }
            }
            return sum;
        }
    }

    private static void put(HearthMoney x, String text) {
        byte[] bytes = text.getBytes(StandardCharsets.ISO_8859_1);
        x.end(0);
        for (int i = 0; i < bytes.length; i += 20) {
            byte[] b = Arrays.copyOf(Arrays.copyOfRange(bytes, i, Math.min(bytes.length, i + 20)), 20);
            int[] n = new int[5];
            for (int k = 0; k < 20; k++) {
                n[k / 4] = n[k / 4] << 8 | b[k] & 255;
            }
            x.feed(n[0], n[1], n[2], n[3], n[4]);
        }
        x.end(bytes.length);
    }

    private static void tell(HearthMoney x, List<String> lines) {
        for (int i = 0; i < lines.size(); i += 6) {
            put(x, String.join(";", lines.subList(i, Math.min(lines.size(), i + 6))));
            x.parish();
        }
    }

    /** A parish; without men nobody comes ever. */
    private static List<String> parish(Maker m, boolean men) {
        List<String> lines = new ArrayList<>();
        int houses = 1 + m.below(6);
        for (int i = 0; i < houses; i++) {
            lines.add("house " + m.below(m.below(2) == 0 ? 20 : 900) + " windows " + m.below(31) + (m.below(4) == 0 ? " paper" : "")
                + (men && m.below(2) == 0 ? " tells " + m.below(101) : ""));
        }
        for (int i = m.below(8); i > 0; i--) {
            lines.add("sees " + m.below(5) + " " + m.below(houses));
        }
        int[] of = new int[houses];
        for (int i = m.below(13); i > 0; i--) {
            int house = m.below(Math.min(houses, 1 + m.below(houses)));
            if (of[house]++ < 6) {
                lines.add("hearth " + new String[] {"fire", "oven", "forge", "pot"}[m.below(4)] + " of " + house + " flue " + m.below(1 + m.below(10))
                    + " warm " + (1 + m.below(9)) + " wall " + (1 + m.below(30)));
            }
        }
        lines.add("rate " + m.below(21) + ";fine " + m.below(51) + ";visit " + (men ? m.below(101) : 0) + ";bed " + m.below(21) + ";quarter " + m.below(9));
        return lines;
    }

    private static void someActs(HearthMoney x, Maker m, int many) {
        for (int i = 0; i < many; i++) {
            tryAct(x, m);
        }
    }

    /** Whether it was an ACT: a PAPER that stays as it is, is none. */
    private static boolean tryAct(HearthMoney x, Maker m) {
        int house = m.below(x.count(0));
        int hearth = m.below(Math.max(1, x.count(1)));
        int number = m.below(10);
        switch (m.below(9)) {
            case 0: return allowed(() -> x.wall(hearth));
            case 1: return allowed(() -> x.open(hearth));
            case 2: case 3: return allowed(() -> x.hide(hearth));
            case 4: return x.paper(house, number < 5);
            case 5: return allowed(() -> x.flue(hearth, number));
            case 6: return allowed(() -> x.rate(number * 2));
            case 7: return allowed(() -> x.give(house, 1 + number * 9));
            default: return allowed(() -> x.quarters(1 + number / 3));
        }
    }

    /** Acts that cannot be are left out; anything that the machine throws is wrong. */
    private static boolean allowed(IntSupplier call) {
        try {
            call.getAsInt();
            return true;
        } catch (RuntimeException e) {
            Class<?> c = e.getClass();
            if (c != IllegalStateException.class && c != IndexOutOfBoundsException.class && c != IllegalArgumentException.class
                && c != UnsupportedOperationException.class && c != java.util.NoSuchElementException.class
                || e.getStackTrace().length == 0 || !e.getStackTrace()[0].getClassName().startsWith("HearthMoney")) {
                due("threw " + e, 1, 0);
            }
            return false;
        }
    }

    private static boolean has(int set, int i) {
        return (set >> i & 1) == 1;
    }

    private static int standing(HearthMoney x, int house) {
        return Integer.bitCount(x.house(house, 10) & ~x.count(11));
    }

    private static void checkRows(HearthMoney x, Maker m) {
        int[] pays = new int[6];
        int[] hundredths = new int[6];
        int[] warmth = new int[6];
        int[] smoke = new int[6];
        int all = 0;
        int free = 0;
        for (int i = 0; i < x.count(1); i++) {
            int house = x.hearth(i, 0);
            int state = x.hearth(i, 5);
            Facts f = new Facts(x.house(house, 1) == 1, x.hearth(i, 1), house, x.hearth(i, 2), x.hearth(i, 3), standing(x, house), x.house(house, 2), x.count(4));
            int found = m.hasLaw ? Math.min(100, m.sum("find", f)) : 30;
            boolean isFree = state == 1 || (m.hasLaw ? m.sum("free", f) > 0 : f.paper);
            int tax = isFree ? 0 : x.count(5) + m.sum("tax", f);
            due("hearth(" + i + ", 6)", x.hearth(i, 6), tax);
            due("hearth(" + i + ", 7)", x.hearth(i, 7), found);
            if (state == 0) {
                pays[house] += tax;
                all += tax;
            }
            if (state == 2) {
                hundredths[house] += found * (tax + x.count(6));
            }
            if (state != 1) {
                warmth[house] += x.hearth(i, 3);
                smoke[house] |= 1 << x.hearth(i, 2);
                free |= tax == 0 ? 1 << i : 0;
            }
        }
        due("free()", x.free(), free);
        for (int i = 0; i < x.count(0); i++) {
            due("PAYS", x.house(i, 5), pays[i]);
            due("HOPES", x.house(i, 6), hundredths[i] / 100);
            due("WARMTH", x.house(i, 7), warmth[i]);
            due("SMOKE", x.house(i, 8), smoke[i]);
            due("SHARE", x.house(i, 9), all == 0 ? 0 : pays[i] * 100 / all);
        }
    }

    /** Puts walls up in a set of hearths, with money for it. */
    private static void wallSet(HearthMoney x, int set) {
        for (int i = 0; i < 12; i++) {
            if (has(set, i)) {
                x.give(x.hearth(i, 0), 999);
                x.wall(i);
            }
        }
    }

    private static int wallsOf(HearthMoney x, int set) {
        int sum = 0;
        for (int i = 0; i < x.count(1); i++) {
            sum += has(set, i) ? x.hearth(i, 4) : 0;
        }
        return sum;
    }

    /** PLAN as {bits, much}, by doing each. */
    private static int[] planOf(HearthMoney x, int house) {
        int open = x.house(house, 10) & x.count(10);
        int[] best = null;
        for (int set = 0; set < 4096; set++) {
            if ((set & ~open) == 0) {
                for (int i = 0; i < Integer.bitCount(set); i++) {
                    x.give(house, 1);
                }
                wallSet(x, set);
                int much = 2 * x.house(house, 7) - x.house(house, 5) - wallsOf(x, set);
                x.back();
                if (best == null || much > best[1]) {
                    best = new int[] {set, much};
                }
            }
        }
        return best;
    }

    private static int leastOf(HearthMoney x, int house, int most) {
        int open = x.house(house, 10) & x.count(10);
        int best = NONE;
        for (int set = 0; set < 4096; set++) {
            if ((set & ~open) == 0) {
                wallSet(x, set);
                int pays = x.house(house, 5);
                x.back();
                if (pays <= most && (best == NONE || Integer.bitCount(set) < Integer.bitCount(best))) {
                    best = set;
                }
            }
        }
        return best;
    }

    private static int warmerOf(HearthMoney x, int house) {
        int best = NONE;
        int most = 2 * x.house(house, 7) - x.house(house, 5);
        for (int i = 0; i < x.count(1); i++) {
            if (has(x.house(house, 10) & x.count(11), i)) {
                x.open(i);
                int then = 2 * x.house(house, 7) - x.house(house, 5);
                x.back();
                if (then > most) {
                    most = then;
                    best = i;
                }
            }
        }
        return best;
    }

    private static int yieldOf(HearthMoney x, int rate) {
        x.rate(rate);
        int sum = 0;
        int set = 0;
        for (int i = 0; i < x.count(0); i++) {
            set |= x.plan(i, false);
        }
        wallSet(x, set);
        for (int i = 0; i < x.count(0); i++) {
            sum += x.house(i, 5);
        }
        x.back();
        return sum;
    }

    private static void checkPlans(HearthMoney x, Maker m) {
        x.image();
        for (int i = 0; i < x.count(0); i++) {
            int[] plan = planOf(x, i);
            due("plan(" + i + ", false)", x.plan(i, false), plan[0]);
            due("plan(" + i + ", true)", x.plan(i, true), plan[1]);
            int most = m.below(1 + x.house(i, 5));
            due("least(" + i + ", " + most + ")", x.least(i, most), leastOf(x, i, most));
            due("warmer(" + i + ")", x.warmer(i), warmerOf(x, i));
        }
        int best = 0;
        int brought = NONE;
        for (int rate = 0; rate <= 20; rate++) {
            int sum = yieldOf(x, rate);
            due("brings(" + rate + ")", x.brings(rate), sum);
            if (sum > brought) {
                brought = sum;
                best = rate;
            }
        }
        due("dear()", x.dear(), best);
    }

    private static void checkSets(HearthMoney x, Maker m) {
        int towers = NONE;
        for (int set = 31; set >= 0; set--) {
            boolean seen = true;
            for (int i = 0; i < x.count(0); i++) {
                seen &= x.house(i, 8) == 0 || (x.house(i, 3) & set) != 0;
            }
            if (seen && (towers == NONE || Integer.bitCount(set) <= Integer.bitCount(towers))) {
                towers = set;
            }
        }
        due("towers()", x.towers(), towers);
        for (int tower = 0; tower < 5; tower++) {
            int stacks = 0;
            for (int i = 0; i < x.count(0); i++) {
                stacks += has(x.house(i, 3), tower) ? Integer.bitCount(x.house(i, 8)) : 0;
            }
            due("stacks(" + tower + ")", x.stacks(tower), stacks);
        }
        for (int n = 0; n <= 6; n++) {
            int best = 0;
            int most = 0;
            for (int set = 0; set < 1 << x.count(0); set++) {
                int hopes = 0;
                for (int i = 0; i < x.count(0); i++) {
                    hopes += has(set, i) ? x.house(i, 6) : 0;
                }
                if (Integer.bitCount(set) <= n && (hopes > most || hopes == most && Integer.bitCount(set) < Integer.bitCount(best))) {
                    best = set;
                    most = hopes;
                }
            }
            due("round(" + n + ")", x.round(n), best);
        }
        for (int i = 0; i < x.count(0); i++) {
            checkSmoke(x, m, i);
        }
    }

    private static void checkGame(HearthMoney x, int hearth) {
        int tax = x.hearth(hearth, 6);
        int loss = x.hearth(hearth, 7) / 10 * (tax + x.count(6)) / 10;
        int steady = 0;
        for (int house = 0; house < 2; house++) {
            for (int man = 0; man < 2; man++) {
                boolean houseStays = gamePays(x, house, man, loss, tax) <= gamePays(x, 1 - house, man, loss, tax);
                boolean manStays = gameHas(house, man, loss, tax) >= gameHas(house, 1 - man, loss, tax);
                steady |= houseStays && manStays ? 1 << 2 * house + man : 0;
            }
        }
        due("game(" + hearth + ")", x.game(hearth), x.hearth(hearth, 5) == 1 ? NONE : steady);
    }

    private static int gamePays(HearthMoney x, int house, int man, int loss, int tax) {
        return house == 1 ? tax : x.count(8) + (man == 0 ? loss : 0);
    }

    private static int gameHas(int house, int man, int loss, int tax) {
        int has = house == 1 ? tax : man == 0 ? loss : 0;
        return man == 0 ? has - 1 : has;
    }

    private static void checkChoices(HearthMoney x) {
        int cheapest = NONE;
        for (int i = x.count(1) - 1; i >= 0; i--) {
            checkGame(x, i);
            int tax = x.hearth(i, 6);
            if (x.hearth(i, 5) != 1 && tax > 0
                && (cheapest == NONE || x.hearth(i, 4) * x.hearth(cheapest, 6) <= x.hearth(cheapest, 4) * tax)) {
                cheapest = i;
            }
        }
        due("cheapest()", x.cheapest(), cheapest);
        int coldest = NONE;
        int alike = 0;
        for (int i = 0; i < x.count(0); i++) {
            coldest = coldest == NONE || x.house(i, 7) < x.house(coldest, 7) ? i : coldest;
            for (int k = 0; k < i; k++) {
                alike += x.house(i, 7) == x.house(k, 7) && x.house(i, 5) == x.house(k, 5) ? 1 : 0;
            }
            int[] sharing = new int[10];
            for (int k = 0; k < x.count(1); k++) {
                sharing[x.hearth(k, 2)] += x.hearth(k, 0) == i ? 1 : 0;
            }
            int crowd = NONE;
            for (int flue = 9; flue >= 0; flue--) {
                crowd = sharing[flue] > 0 && (crowd == NONE || sharing[flue] >= sharing[crowd]) ? flue : crowd;
            }
            due("crowd(" + i + ")", x.crowd(i), crowd);
            due("window(" + i + ")", x.window(i), Math.max(0, x.house(i, 2) - 6) - x.house(i, 5));
            due("odds(" + i + ")", x.odds(i), 10000 - (100 - x.count(7)) * (100 - x.house(i, 4)));
        }
        due("coldest()", x.coldest(), coldest);
        due("alike()", x.alike(), alike);
    }

    private static void checkSmoke(HearthMoney x, Maker m, int house) {
        StringBuilder told = new StringBuilder();
        for (int i = m.below(4); i > 0; i--) {
            told.append((char) m.below(10)).append((char) m.below(2));
        }
        int sets = 0;
        int fewest = NONE;
        int[] burns = new int[12];
        for (int set = 0; set < 4096; set++) {
            if ((set & ~x.house(house, 10)) != 0 || !fits(x, set, told)) {
                continue;
            }
            sets++;
            fewest = fewest == NONE ? Integer.bitCount(set) : Math.min(fewest, Integer.bitCount(set));
            for (int i = 0; i < 12; i++) {
                burns[i] += set >> i & 1;
            }
        }
        int look = NONE;
        for (int i = 11; i >= 0; i--) {
            if (burns[i] > 0 && burns[i] < sets
                && (look == NONE || Math.max(burns[i], sets - burns[i]) <= Math.max(burns[look], sets - burns[look]))) {
                look = i;
            }
        }
        put(x, told.toString());
        due("smokes(" + house + ", false)", x.smokes(house, false), sets);
        put(x, told.toString());
        due("smokes(" + house + ", true)", x.smokes(house, true), fewest);
        put(x, told.toString());
        due("look(" + house + ")", x.look(house), look);
    }

    private static boolean fits(HearthMoney x, int set, CharSequence told) {
        for (int i = 0; i < told.length(); i += 2) {
            boolean smoked = false;
            for (int k = 0; k < x.count(1); k++) {
                smoked |= has(set, k) && x.hearth(k, 2) == told.charAt(i);
            }
            if (smoked != (told.charAt(i + 1) == 1)) {
                return false;
            }
        }
        return true;
    }

    /** A QUARTER by the words of the document, from what the face tells ahead of it. */
    private static void checkQuarter(HearthMoney x) {
        int[] seed = {x.seed(0)};
        x.seed(seed[0]);
        int houses = x.count(0);
        int[] purse = new int[houses];
        int paid = 0;
        int hidden = x.hidden();
        int rows = x.count(13);
        int latest = NONE;
        for (int i = 0; i < houses; i++) {
            int due = x.house(i, 5);
            boolean man = draw(seed) < x.count(7) || draw(seed) < x.house(i, 4);
            for (int k = 0; k < x.count(1); k++) {
                if (man && x.hearth(k, 0) == i && x.hearth(k, 5) == 2 && draw(seed) < x.hearth(k, 7)) {
                    hidden &= ~(1 << k);
                    due += x.count(6) + x.hearth(k, 6);
                    rows = Math.min(60, rows + 1);
                    latest = k;
                }
            }
            int pay = Math.min(due, x.house(i, 0));
            purse[i] = x.house(i, 0) - pay;
            paid += pay;
        }
        int taken = Math.min(9999, x.count(9) + paid);
        int quarter = x.count(4);
        due("trial(1, false)", x.trial(1, false), taken);
        due("trial(1, true)", x.trial(1, true), hidden);
        due("quarters(1)", x.quarters(1), paid);
        due("TAKEN", x.count(9), taken);
        due("QUARTER", x.count(4), Math.min(9999, quarter + 1));
        due("hidden()", x.hidden(), hidden);
        due("rows", x.count(13), rows);
        due("SEED", x.seed(seed[0]), seed[0]);
        if (latest != NONE) {
            due("log(0, 0)", x.log(0, 0), quarter);
            due("log(0, 1)", x.log(0, 1), latest);
            due("log(0, 2)", x.log(0, 2), x.hearth(latest, 0));
            due("led", x.led(x.hearth(latest, 0), true), quarter);
        }
        for (int i = 0; i < houses; i++) {
            due("PURSE", x.house(i, 0), purse[i]);
        }
    }

    private static int draw(int[] seed) {
        seed[0] = seed[0] * 1103515245 + 12345;
        return (seed[0] >> 16 & 32767) % 100;
    }

    /** Without men, quarters done for real are those looked ahead to. */
    private static void checkAhead(HearthMoney x) {
        int houses = x.count(0);
        int[] broke = new int[houses];
        Arrays.fill(broke, NONE);
        int[] answered = new int[houses];
        for (int i = 0; i < houses; i++) {
            answered[i] = x.broke(i);
        }
        int goal = 1 + x.ahead(0, 3) % 50 + x.count(9);
        int first = x.first(goal);
        int firstReal = NONE;
        int[][] ahead = new int[houses][101];
        for (int i = 0; i < houses; i++) {
            for (int n = 0; n <= 100; n++) {
                ahead[i][n] = x.ahead(i, n);
            }
        }
        for (int n = 0; n <= 100; n++) {
            if (n > 0) {
                x.quarters(1);
            }
            for (int i = 0; i < houses; i++) {
                due("ahead(" + i + ", " + n + ")", ahead[i][n], x.house(i, 0));
                if (broke[i] == NONE && x.house(i, 0) == 0) {
                    broke[i] = n;
                }
            }
            if (firstReal == NONE && x.count(9) >= goal) {
                firstReal = n;
            }
        }
        for (int i = 0; i < houses; i++) {
            due("broke(" + i + ")", answered[i], broke[i]);
        }
        due("first(" + goal + ")", first, firstReal);
    }

    private static void checkSpan(HearthMoney x, int n) {
        x.image();
        int least = Integer.MAX_VALUE;
        int most = Integer.MIN_VALUE;
        for (int seed = 1; seed <= 6; seed++) {
            x.seed(seed);
            x.quarters(n);
            least = Math.min(least, x.count(9));
            most = Math.max(most, x.count(9));
            x.back();
        }
        due("span(" + n + ", false)", x.span(n, false), least);
        due("span(" + n + ", true)", x.span(n, true), most);
    }

    /** All that the face tells and that is no question about sets. */
    private static List<Integer> all(HearthMoney x) {
        List<Integer> all = new ArrayList<>();
        for (int i = 0; i < 14; i++) {
            all.add(x.count(i));
        }
        for (int i = 0; i < x.count(0); i++) {
            for (int what = 0; what < 11; what++) {
                all.add(x.house(i, what));
            }
        }
        for (int i = 0; i < x.count(1); i++) {
            for (int what = 0; what < 8; what++) {
                all.add(x.hearth(i, what));
            }
        }
        for (int ago = 0; ago < 60; ago++) {
            for (int what = 0; what < 4; what++) {
                all.add(x.log(ago, what));
            }
        }
        int seed = x.seed(0);
        x.seed(seed);
        all.add(seed);
        return all;
    }

    private static void checkUndo(HearthMoney x, Maker m) {
        put(x, "");
        x.law();
        m.lines.clear();
        m.hasLaw = true;
        List<List<Integer>> states = new ArrayList<>();
        for (int i = 0; i < 30; i++) {
            List<Integer> before = all(x);
            if (tryAct(x, m)) {
                states.add(before);
            } else {
                due("without an act nothing changes", all(x).equals(before) ? 1 : 0, 1);
            }
        }
        due("acts that can be undone", x.count(14), Math.min(12, states.size()));
        for (int i = 0; i < Math.min(12, states.size()); i++) {
            due("undo()", x.undo() ? 1 : 0, 1);
            due("all is as ahead of it", all(x).equals(states.get(states.size() - 1 - i)) ? 1 : 0, 1);
        }
        due("undo()", x.undo() ? 1 : 0, 0);
    }

    /** Calls of any numbers: a call that throws, and a question, changes nothing. */
    private static void anyCalls(HearthMoney x, Maker m) {
        for (int i = 0; i < 150; i++) {
            int a = m.below(9) == 0 ? m.random.nextInt() : m.below(16) - 2;
            int b = m.below(9) == 0 ? m.random.nextInt() : m.below(120) - 9;
            boolean c = m.below(2) == 0;
            if (m.below(5) == 0) {
                put(x, m.below(2) == 0 ? m.law() : "house " + a + (c ? " windows " : "; ") + b + "; rate 3");
            }
            int call = m.below(40);
            List<Integer> before = all(x);
            int acts = x.count(14);
            boolean answered = allowed(() -> call(x, call, a, b, c));
            if (!answered || call >= 12) {
                due("call " + call + " changes nothing", all(x).equals(before) && x.count(14) == acts ? 1 : 0, 1);
            }
        }
    }

    private static int call(HearthMoney x, int call, int a, int b, boolean c) {
        switch (call) {
            case 0: return x.parish();
            case 1: return x.law();
            case 2: return x.wall(a);
            case 3: return x.open(a);
            case 4: return x.hide(a);
            case 5: return x.paper(a, c) ? 1 : 0;
            case 6: return x.flue(a, b);
            case 7: return x.rate(a);
            case 8: return x.give(a, b);
            case 9: return x.quarters(b);
            case 10: return x.undo() ? 1 : 0;
            case 11: return x.back() ? 1 : 0;
            case 12: return x.house(a, b);
            case 13: return x.hearth(a, b);
            case 14: return x.stacks(a);
            case 15: return x.towers();
            case 16: return x.plan(a, c);
            case 17: return x.brings(a);
            case 18: return x.dear();
            case 19: return x.round(a);
            case 20: return x.smokes(a, c);
            case 21: return x.look(a);
            case 22: return x.window(a);
            case 23: return x.odds(a);
            case 24: return x.alike() + x.coldest() + x.free() + x.hidden() + x.cheapest();
            case 25: return x.broke(a);
            case 26: return x.game(a);
            case 27: return x.crowd(a);
            case 28: return x.warmer(a);
            case 29: return x.first(b);
            case 30: return x.least(a, b);
            case 31: return x.ahead(a, b);
            case 32: return x.trial(b, c);
            case 33: return x.span(b, c);
            case 34: return x.led(a, c);
            case 35: return x.log(a, b);
            case 36: return x.count(a);
            case 37: return x.feed(a, b, a, b, a);
            case 38: return x.end(b) ? 1 : 0;
            default: x.image(); return x.fault();
        }
    }

    public static void main(String[] args) {
        for (int run = 0; run < 250; run++) {
            where = "run " + run;
            Maker m = new Maker(run);
            HearthMoney x = new HearthMoney();
            tell(x, parish(m, true));
            if (m.below(4) > 0) {
                put(x, m.law());
                x.law();
            }
            x.seed(m.random.nextInt());
            for (int step = 0; step < 4; step++) {
                checkRows(x, m);
                someActs(x, m, 6);
                checkRows(x, m);
                checkSets(x, m);
                checkChoices(x);
                checkQuarter(x);
            }
            checkPlans(x, m);
            checkSpan(x, 1 + m.below(60));
            HearthMoney calm = new HearthMoney();
            tell(calm, parish(m, false));
            put(calm, m.law());
            calm.law();
            someActs(calm, m, 6);
            checkAhead(calm);
            checkUndo(x, m);
            anyCalls(x, m);
        }
        System.out.println(wrong == 0 ? "all answers are as due" : wrong + " answers are not as due");
        if (wrong != 0) {
            System.exit(1);
        }
    }
}
