import java.nio.charset.StandardCharsets;
import java.util.ArrayDeque;
import java.util.ArrayList;
import java.util.Arrays;
import java.util.Deque;
import java.util.List;
import java.util.NoSuchElementException;
import java.util.Random;

/**
 * The document told a second time, as plainly as can be, and long random runs of calls (right and wrong texts and
 * arguments) in which the class must answer as that second telling does.
 */
public final class HearthMoneyModel {
    private static final int NONE = -1;
    private static final int RUNS = 800;
    private static final int CALLS = 340;

    private static final List<String> KINDS = List.of("fire", "oven", "forge", "pot");
    private static final List<String> PARTS = List.of("house", "flue", "warm", "hearths", "windows", "quarter");

    /** The first wrong byte. */
    private static final class Wrong extends Exception {
        final int at;

        Wrong(int at) {
            super("", null, false, false);
            this.at = at;
        }
    }

    /** A word, a number or another byte of a text; an empty one is the text's end. */
    private record Thing(String text, int at) {
        boolean isNumber() {
            return !text.isEmpty() && Character.isDigit(text.charAt(0)) && text.charAt(0) < 128;
        }

        boolean isNumber(int low, int high) {
            return isNumber() && text.length() <= 3 && Integer.parseInt(text) >= low && Integer.parseInt(text) <= high;
        }
    }

    private static List<Thing> cut(byte[] tape) {
        String text = new String(tape, StandardCharsets.ISO_8859_1);
        List<Thing> things = new ArrayList<>();
        var matcher = java.util.regex.Pattern.compile("[a-z]+|[0-9]+|[^ ]", java.util.regex.Pattern.DOTALL).matcher(text);
        while (matcher.find()) {
            things.add(new Thing(matcher.group(), matcher.start()));
        }
        things.add(new Thing("", text.length()));
        return things;
    }

    private interface Truth {
        boolean of(State s, int hearth);
    }

    private record Line(String sort, int number, Truth holds) {
    }

    /** All but the tape, the fault and the image. */
    private static final class State {
        static final int PURSE = 0;
        static final int PAPER = 1;
        static final int WINDOWS = 2;
        static final int TOWERS = 3;
        static final int TELLS = 4;
        final List<int[]> houses = new ArrayList<>();

        static final int HOUSE = 0;
        static final int KIND = 1;
        static final int FLUE = 2;
        static final int WARM = 3;
        static final int WALL = 4;
        static final int STATE = 5;
        final List<int[]> hearths = new ArrayList<>();

        final List<int[]> log = new ArrayList<>();
        List<Line> law = null;
        int texts = 0;
        int rate = 2;
        int fine = 5;
        int visit = 50;
        int bed = 1;
        int quarter = 0;
        int taken = 0;
        int seed = 1;

        State copy() {
            State c = new State();
            for (int[] row : houses) {
                c.houses.add(row.clone());
            }
            for (int[] row : hearths) {
                c.hearths.add(row.clone());
            }
            c.log.addAll(log);
            c.law = law;
            c.texts = texts;
            c.rate = rate;
            c.fine = fine;
            c.visit = visit;
            c.bed = bed;
            c.quarter = quarter;
            c.taken = taken;
            c.seed = seed;
            return c;
        }

        boolean is(int hearth, int state) {
            return hearths.get(hearth)[STATE] == state;
        }

        List<Integer> of(int house) {
            List<Integer> its = new ArrayList<>();
            for (int i = 0; i < hearths.size(); i++) {
                if (hearths.get(i)[HOUSE] == house) {
                    its.add(i);
                }
            }
            return its;
        }

        int standing(int house) {
            return (int) of(house).stream().filter(i -> !is(i, 1)).count();
        }

        boolean hasPaper(int hearth) {
            return houses.get(hearths.get(hearth)[HOUSE])[PAPER] == 1;
        }

        int sum(String sort, int hearth) {
            int sum = 0;
            for (Line line : law) {
                if (line.sort.equals(sort) && line.holds.of(this, hearth)) {
                    sum += line.number;
                }
            }
            return sum;
        }

        int tax(int hearth) {
            if (is(hearth, 1)) {
                return 0;
            }
            if (law == null) {
                return hasPaper(hearth) ? 0 : rate;
            }
            return sum("free", hearth) > 0 ? 0 : rate + sum("tax", hearth);
        }

        int found(int hearth) {
            return law == null ? 30 : Math.min(100, sum("find", hearth));
        }

        int pays(int house) {
            return of(house).stream().filter(i -> is(i, 0)).mapToInt(this::tax).sum();
        }

        int paysOfAll() {
            int sum = 0;
            for (int i = 0; i < houses.size(); i++) {
                sum += pays(i);
            }
            return sum;
        }

        int hopes(int house) {
            return of(house).stream().filter(i -> is(i, 2)).mapToInt(i -> found(i) * (tax(i) + fine)).sum() / 100;
        }

        int warmth(int house) {
            return of(house).stream().filter(i -> !is(i, 1)).mapToInt(i -> hearths.get(i)[WARM]).sum();
        }

        int smoke(int house) {
            return of(house).stream().filter(i -> !is(i, 1)).mapToInt(i -> 1 << hearths.get(i)[FLUE])
                .reduce(0, (a, b) -> a | b);
        }

        int bits(int state) {
            int bits = 0;
            for (int i = 0; i < hearths.size(); i++) {
                bits |= is(i, state) ? 1 << i : 0;
            }
            return bits;
        }

        int draw() {
            long next = (1103515245L * (seed & 0xffffffffL) + 12345L) % (1L << 32);
            seed = (int) next;
            return (int) (next / 65536 % 32768);
        }

        int pass(boolean men) {
            int paid = 0;
            for (int house = 0; house < houses.size(); house++) {
                int[] row = houses.get(house);
                int fines = 0;
                boolean comes = men && draw() % 100 < visit;
                if (men && !comes) {
                    comes = draw() % 100 < row[TELLS];
                }
                for (int i : of(house)) {
                    if (comes && is(i, 2) && draw() % 100 < found(i)) {
                        hearths.get(i)[STATE] = 0;
                        fines += fine;
                        log.add(0, new int[] {quarter, i, house, tax(i)});
                        if (log.size() > 60) {
                            log.remove(60);
                        }
                    }
                }
                int pay = Math.min(row[PURSE], pays(house) + fines);
                row[PURSE] -= pay;
                taken = Math.min(9999, taken + pay);
                paid += pay;
            }
            quarter = Math.min(9999, quarter + 1);
            return paid;
        }

        State after(int n, boolean men) {
            State c = copy();
            for (int i = 0; i < n; i++) {
                c.pass(men);
            }
            return c;
        }

        State walled(int set) {
            State c = copy();
            for (int i = 0; i < hearths.size(); i++) {
                if ((set >> i & 1) == 1) {
                    c.hearths.get(i)[STATE] = 1;
                }
            }
            return c;
        }

        /** All sets of the hearths of a house that are in one of these states, the least first. */
        List<Integer> sets(int house, boolean all) {
            List<Integer> sets = new ArrayList<>();
            int from = 0;
            for (int i : of(house)) {
                from |= all || is(i, 0) ? 1 << i : 0;
            }
            for (int set = 0; set < 1 << hearths.size(); set++) {
                if ((set & ~from) == 0) {
                    sets.add(set);
                }
            }
            return sets;
        }

        /** The plan, and how much it is. */
        int[] plan(int house) {
            int[] best = null;
            for (int set : sets(house, false)) {
                State then = walled(set);
                int much = 2 * then.warmth(house) - then.pays(house);
                for (int i = 0; i < hearths.size(); i++) {
                    much -= (set >> i & 1) * hearths.get(i)[WALL];
                }
                if (best == null || much > best[1]) {
                    best = new int[] {set, much};
                }
            }
            return best;
        }

        int yield(int rate) {
            State c = copy();
            c.rate = rate;
            int all = 0;
            for (int i = 0; i < houses.size(); i++) {
                all |= c.plan(i)[0];
            }
            return c.walled(all).paysOfAll();
        }

        List<Integer> burnt(int house, byte[] told) {
            List<Integer> fit = new ArrayList<>();
            for (int set : sets(house, true)) {
                boolean fits = true;
                for (int i = 0; i < told.length; i += 2) {
                    int flue = told[i];
                    boolean smokes = of(house).stream()
                        .anyMatch(h -> (set >> h & 1) == 1 && hearths.get(h)[FLUE] == flue);
                    fits &= smokes == (told[i + 1] == 1);
                }
                if (fits) {
                    fit.add(set);
                }
            }
            return fit;
        }
    }

    /** Reads a text of the parish by the forms of its lines. */
    private static final class ParishText {
        final List<Thing> things;
        final State s;
        int next = 0;

        ParishText(byte[] tape, State s) {
            this.things = cut(tape);
            this.s = s;
        }

        Thing now() {
            return things.get(next);
        }

        Wrong wrong() {
            return new Wrong(now().at);
        }

        void word(String word) throws Wrong {
            if (!now().text.equals(word)) {
                throw wrong();
            }
            next++;
        }

        int number(int low, int high) throws Wrong {
            if (!now().isNumber(low, high)) {
                throw wrong();
            }
            return Integer.parseInt(things.get(next++).text);
        }

        boolean maybe(String word) {
            boolean there = now().text.equals(word);
            next += there ? 1 : 0;
            return there;
        }

        void read() throws Wrong {
            if (things.size() == 1) {
                return;
            }
            for (int lines = 1;; lines++) {
                if (lines == 15) {
                    throw wrong();
                }
                line();
                if (now().text.isEmpty()) {
                    return;
                }
                word(";");
            }
        }

        void line() throws Wrong {
            switch (now().text) {
                case "house" -> house();
                case "sees" -> {
                    next++;
                    int tower = number(0, 4);
                    s.houses.get(number(0, s.houses.size() - 1))[State.TOWERS] |= 1 << tower;
                }
                case "hearth" -> hearth();
                case "rate" -> {
                    next++;
                    s.rate = number(0, 20);
                }
                case "fine" -> {
                    next++;
                    s.fine = number(0, 50);
                }
                case "visit" -> {
                    next++;
                    s.visit = number(0, 100);
                }
                case "bed" -> {
                    next++;
                    s.bed = number(0, 20);
                }
                case "quarter" -> {
                    next++;
                    s.quarter = number(0, 999);
                }
                default -> throw wrong();
            }
        }

        void house() throws Wrong {
            if (s.houses.size() == 6) {
                throw wrong();
            }
            next++;
            int purse = number(0, 999);
            word("windows");
            int windows = number(0, 30);
            int paper = maybe("paper") ? 1 : 0;
            int tells = maybe("tells") ? number(0, 100) : 0;
            s.houses.add(new int[] {purse, paper, windows, 0, tells});
        }

        void hearth() throws Wrong {
            if (s.hearths.size() == 12) {
                throw wrong();
            }
            next++;
            int kind = KINDS.indexOf(now().text);
            if (kind < 0) {
                throw wrong();
            }
            next++;
            word("of");
            if (now().isNumber() && now().text.length() <= 3 && s.of(Integer.parseInt(now().text)).size() == 6) {
                throw wrong();
            }
            int house = number(0, s.houses.size() - 1);
            word("flue");
            int flue = number(0, 9);
            word("warm");
            int warm = number(1, 9);
            word("wall");
            int wall = number(1, 30);
            s.hearths.add(new int[] {house, kind, flue, warm, wall, 0});
        }
    }

    /** Reads a law: first by what may stand behind what, then, if it is right, by cutting it up at or, and, not. */
    private static final class LawText {
        private enum Wait { LINE, NUMBER, IF, ATOM, LEFT, LEFT_SIGN, RIGHT, RIGHT_SIGN, JOIN }

        final List<Thing> things;

        LawText(byte[] tape) {
            this.things = cut(tape);
        }

        List<Line> read() throws Wrong {
            check();
            List<Line> law = new ArrayList<>();
            int from = 0;
            for (int i = 0; i < things.size() && things.size() > 1; i++) {
                if (things.get(i).text.equals(";") || things.get(i).text.isEmpty()) {
                    law.add(line(things.subList(from, i)));
                    from = i + 1;
                }
            }
            return law;
        }

        void check() throws Wrong {
            if (things.size() == 1) {
                return;
            }
            Wait wait = Wait.LINE;
            int lines = 0;
            StringBuilder within = new StringBuilder();
            for (Thing thing : things) {
                String text = thing.text;
                boolean part = PARTS.contains(text) || thing.isNumber(0, 999);
                Wait then = null;
                switch (wait) {
                    case LINE:
                        lines++;
                        if (lines <= 12 && List.of("tax", "find").contains(text)) {
                            then = Wait.NUMBER;
                        } else if (lines <= 12 && text.equals("free")) {
                            then = Wait.IF;
                        }
                        break;
                    case NUMBER:
                        then = thing.isNumber(0, 99) ? Wait.IF : null;
                        break;
                    case IF:
                        then = text.equals("if") ? Wait.ATOM : text.equals(";") ? Wait.LINE : text.isEmpty() ? wait : null;
                        break;
                    case ATOM:
                        if ((text.equals("(") || text.equals("not")) && within.length() < 6) {
                            within.append(text.charAt(0));
                            then = Wait.ATOM;
                        } else if (text.equals("paper") || KINDS.contains(text)) {
                            then = Wait.JOIN;
                        } else if (part) {
                            then = Wait.LEFT_SIGN;
                        }
                        break;
                    case LEFT:
                        then = part ? Wait.LEFT_SIGN : null;
                        break;
                    case LEFT_SIGN:
                        then = text.equals("+") ? Wait.LEFT : text.equals("<") || text.equals(">") ? Wait.RIGHT : null;
                        break;
                    case RIGHT:
                        then = part ? Wait.RIGHT_SIGN : null;
                        break;
                    default:
                        if (wait == Wait.RIGHT_SIGN && text.equals("+")) {
                            then = Wait.RIGHT;
                            break;
                        }
                        // An atom has come to its end, and with it each not right ahead of it.
                        while (within.length() > 0 && within.charAt(within.length() - 1) == 'n') {
                            within.setLength(within.length() - 1);
                        }
                        boolean open = within.length() > 0;
                        if (text.equals("and") || text.equals("or")) {
                            then = Wait.ATOM;
                        } else if (open && text.equals(")")) {
                            within.setLength(within.length() - 1);
                            then = Wait.JOIN;
                        } else if (!open && text.equals(";")) {
                            then = Wait.LINE;
                        } else if (!open && text.isEmpty()) {
                            then = Wait.JOIN;
                        }
                        break;
                }
                if (then == null) {
                    throw new Wrong(thing.at);
                }
                wait = then;
            }
        }

        static Line line(List<Thing> of) {
            String sort = of.get(0).text;
            int number = sort.equals("free") ? 1 : Integer.parseInt(of.get(1).text);
            int head = sort.equals("free") ? 1 : 2;
            if (of.size() == head) {
                return new Line(sort, number, (s, h) -> true);
            }
            return new Line(sort, number, truth(of.subList(head + 1, of.size())));
        }

        /** Where a word stands outside of brackets first; -1. */
        static int outside(List<Thing> of, String word) {
            int depth = 0;
            for (int i = 0; i < of.size(); i++) {
                String text = of.get(i).text;
                depth += text.equals("(") ? 1 : text.equals(")") ? -1 : 0;
                if (depth == 0 && text.equals(word)) {
                    return i;
                }
            }
            return -1;
        }

        static Truth truth(List<Thing> of) {
            int or = outside(of, "or");
            if (or >= 0) {
                Truth left = truth(of.subList(0, or));
                Truth right = truth(of.subList(or + 1, of.size()));
                return (s, h) -> left.of(s, h) || right.of(s, h);
            }
            int and = outside(of, "and");
            if (and >= 0) {
                Truth left = truth(of.subList(0, and));
                Truth right = truth(of.subList(and + 1, of.size()));
                return (s, h) -> left.of(s, h) && right.of(s, h);
            }
            String first = of.get(0).text;
            if (first.equals("not")) {
                Truth rest = truth(of.subList(1, of.size()));
                return (s, h) -> !rest.of(s, h);
            }
            if (first.equals("(")) {
                return truth(of.subList(1, of.size() - 1));
            }
            if (first.equals("paper")) {
                return State::hasPaper;
            }
            int kind = KINDS.indexOf(first);
            if (kind >= 0) {
                return (s, h) -> s.hearths.get(h)[State.KIND] == kind;
            }
            int less = outside(of, "<");
            int sign = less >= 0 ? less : outside(of, ">");
            List<Thing> left = of.subList(0, sign);
            List<Thing> right = of.subList(sign + 1, of.size());
            return (s, h) -> less >= 0 ? sum(left, s, h) < sum(right, s, h) : sum(left, s, h) > sum(right, s, h);
        }

        static int sum(List<Thing> of, State s, int hearth) {
            int[] row = s.hearths.get(hearth);
            int sum = 0;
            for (Thing thing : of) {
                sum += switch (thing.text) {
                    case "+" -> 0;
                    case "house" -> row[State.HOUSE];
                    case "flue" -> row[State.FLUE];
                    case "warm" -> row[State.WARM];
                    case "hearths" -> s.standing(row[State.HOUSE]);
                    case "windows" -> s.houses.get(row[State.HOUSE])[State.WINDOWS];
                    case "quarter" -> s.quarter;
                    default -> Integer.parseInt(thing.text);
                };
            }
            return sum;
        }
    }

    /** The calls, told a second time. */
    private static final class Model {
        State s = new State();
        State image = null;
        final Deque<State> past = new ArrayDeque<>();
        byte[] tape = new byte[0];
        int fault = NONE;

        byte[] useTape() {
            byte[] was = tape;
            tape = new byte[0];
            return was;
        }

        void needHouse(int house) {
            if (house < 0 || house >= s.houses.size()) {
                throw new IndexOutOfBoundsException();
            }
        }

        void needHearth(int hearth) {
            if (hearth < 0 || hearth >= s.hearths.size()) {
                throw new IndexOutOfBoundsException();
            }
        }

        void need(int n, int low, int high) {
            if (n < low || n > high) {
                throw new IllegalArgumentException();
            }
        }

        void act() {
            past.push(s.copy());
            if (past.size() > 12) {
                past.removeLast();
            }
        }

        int bool(boolean is) {
            return is ? 1 : 0;
        }

        int call(String name, int[] a) {
            switch (name) {
                case "feed": {
                    if (tape.length + 20 > 400) {
                        return NONE;
                    }
                    byte[] longer = Arrays.copyOf(tape, tape.length + 20);
                    for (int i = 0; i < 20; i++) {
                        longer[tape.length + i] = (byte) (a[i / 4] >> 8 * (3 - i % 4));
                    }
                    tape = longer;
                    return tape.length;
                }
                case "end":
                    if (a[0] < 0 || a[0] > tape.length) {
                        return 0;
                    }
                    tape = Arrays.copyOf(tape, a[0]);
                    return 1;
                case "parish":
                case "law":
                    return text(name.equals("law"));
                case "fault":
                    return fault;
                case "house":
                case "window":
                case "odds":
                case "broke":
                case "crowd":
                case "warmer":
                case "plan":
                case "ahead":
                case "least":
                case "led":
                case "give":
                case "paper":
                    needHouse(a[0]);
                    return ofHouse(name, a[0], a.length > 1 ? a[1] : 0);
                case "hearth":
                case "game":
                case "wall":
                case "open":
                case "hide":
                case "flue":
                    needHearth(a[0]);
                    return ofHearth(name, a[0], a.length > 1 ? a[1] : 0);
                case "smokes":
                case "look":
                    return smoke(name, a[0], a.length > 1 ? a[1] : 0);
                case "undo":
                    if (past.isEmpty()) {
                        return 0;
                    }
                    s = past.pop();
                    return 1;
                case "image":
                    image = s.copy();
                    return 0;
                case "back":
                    if (image == null) {
                        return 0;
                    }
                    s = image.copy();
                    past.clear();
                    return 1;
                default:
                    return ofAll(name, a.length > 0 ? a[0] : 0, a.length > 1 ? a[1] : 0);
            }
        }

        int text(boolean law) {
            byte[] text = useTape();
            State then = s.copy();
            try {
                fault = NONE;
                if (law) {
                    then.law = new LawText(text).read();
                } else {
                    new ParishText(text, then).read();
                }
            } catch (Wrong w) {
                fault = w.at;
                throw new IllegalArgumentException();
            }
            if (!law && s.texts == 12) {
                throw new UnsupportedOperationException();
            }
            then.texts += law ? 0 : 1;
            s = then;
            past.clear();
            return law ? s.law.size() : s.texts;
        }

        int ofHouse(String name, int house, int n) {
            int[] row = s.houses.get(house);
            switch (name) {
                case "house":
                    return seeHouse(house, n);
                case "window":
                    return Math.max(0, row[State.WINDOWS] - 6) - s.pays(house);
                case "odds": {
                    int of = 0;
                    for (int first = 0; first < 100; first++) {
                        for (int second = 0; second < 100; second++) {
                            of += first < s.visit || second < row[State.TELLS] ? 1 : 0;
                        }
                    }
                    return of;
                }
                case "broke":
                    for (int i = 0; i <= 100; i++) {
                        if (s.after(i, false).houses.get(house)[State.PURSE] == 0) {
                            return i;
                        }
                    }
                    return NONE;
                case "crowd": {
                    int[] many = new int[10];
                    for (int i : s.of(house)) {
                        many[s.hearths.get(i)[State.FLUE]]++;
                    }
                    int most = Arrays.stream(many).max().getAsInt();
                    for (int i = 0; i < 10 && most > 0; i++) {
                        if (many[i] == most) {
                            return i;
                        }
                    }
                    return NONE;
                }
                case "warmer":
                    return warmer(house);
                case "plan":
                    return s.plan(house)[n];
                case "ahead":
                    need(n, 0, 100);
                    return s.after(n, false).houses.get(house)[State.PURSE];
                case "least": {
                    need(n, 0, 999);
                    int best = NONE;
                    for (int set : s.sets(house, false)) {
                        boolean fewer = best < 0 || Integer.bitCount(set) < Integer.bitCount(best);
                        if (fewer && s.walled(set).pays(house) <= n) {
                            best = set;
                        }
                    }
                    return best;
                }
                case "led": {
                    List<int[]> rows = s.log.stream().filter(r -> r[2] == house).toList();
                    return n == 0 ? rows.size() : rows.isEmpty() ? NONE : rows.get(0)[0];
                }
                case "give":
                    need(n, 1, 999);
                    act();
                    row[State.PURSE] = Math.min(9999, row[State.PURSE] + n);
                    return row[State.PURSE];
                default:
                    if (row[State.PAPER] == n) {
                        return 0;
                    }
                    act();
                    row[State.PAPER] = n;
                    return 1;
            }
        }

        int warmer(int house) {
            int best = NONE;
            int most = 2 * s.warmth(house) - s.pays(house);
            for (int i : s.of(house)) {
                State then = s.copy();
                then.hearths.get(i)[State.STATE] = s.is(i, 1) ? 0 : s.hearths.get(i)[State.STATE];
                int much = 2 * then.warmth(house) - then.pays(house);
                if (much > most) {
                    most = much;
                    best = i;
                }
            }
            return best;
        }

        int seeHouse(int house, int what) {
            switch (what) {
                case 0:
                case 1:
                case 2:
                case 3:
                case 4:
                    return s.houses.get(house)[what];
                case 5:
                    return s.pays(house);
                case 6:
                    return s.hopes(house);
                case 7:
                    return s.warmth(house);
                case 8:
                    return s.smoke(house);
                case 9:
                    return s.paysOfAll() == 0 ? 0 : 100 * s.pays(house) / s.paysOfAll();
                case 10:
                    return s.of(house).stream().mapToInt(i -> 1 << i).sum();
                default:
                    throw new NoSuchElementException();
            }
        }

        int ofHearth(String name, int hearth, int n) {
            int[] row = s.hearths.get(hearth);
            int[] owner = s.houses.get(row[State.HOUSE]);
            int was;
            switch (name) {
                case "hearth":
                    if (n < 0 || n > 7) {
                        throw new NoSuchElementException();
                    }
                    return n == 6 ? s.tax(hearth) : n == 7 ? s.found(hearth) : row[n];
                case "game":
                    return game(hearth);
                case "wall":
                    if (row[State.STATE] == 1 || owner[State.PURSE] < row[State.WALL]) {
                        throw new IllegalStateException();
                    }
                    act();
                    row[State.STATE] = 1;
                    owner[State.PURSE] -= row[State.WALL];
                    return owner[State.PURSE];
                case "open":
                    if (row[State.STATE] == 0) {
                        throw new IllegalStateException();
                    }
                    act();
                    was = row[State.STATE];
                    row[State.STATE] = 0;
                    return was;
                case "hide":
                    if (row[State.STATE] != 0 || owner[State.PURSE] < s.bed) {
                        throw new IllegalStateException();
                    }
                    act();
                    row[State.STATE] = 2;
                    owner[State.PURSE] -= s.bed;
                    return owner[State.PURSE];
                default:
                    if (n < 0 || n > 9) {
                        throw new IndexOutOfBoundsException();
                    }
                    act();
                    was = row[State.FLUE];
                    row[State.FLUE] = n;
                    return was;
            }
        }

        int game(int hearth) {
            if (s.is(hearth, 1)) {
                return NONE;
            }
            int tax = s.tax(hearth);
            int loss = Math.floorDiv(Math.floorDiv(s.found(hearth), 10) * (tax + s.fine), 10);
            int[][] pays = {{s.bed + loss, s.bed}, {tax, tax}};
            int[][] has = {{loss - 1, 0}, {tax - 1, tax}};
            int bits = 0;
            for (int house = 0; house < 2; house++) {
                for (int man = 0; man < 2; man++) {
                    if (pays[1 - house][man] >= pays[house][man] && has[house][1 - man] <= has[house][man]) {
                        bits |= 1 << 2 * house + man;
                    }
                }
            }
            return bits;
        }

        int smoke(String name, int house, int fewest) {
            byte[] told = useTape();
            needHouse(house);
            boolean right = told.length <= 40 && told.length % 2 == 0;
            for (int i = 0; i < told.length; i++) {
                right &= told[i] >= 0 && told[i] <= (i % 2 == 0 ? 9 : 1);
            }
            if (!right) {
                throw new IllegalArgumentException();
            }
            List<Integer> fit = s.burnt(house, told);
            if (name.equals("smokes")) {
                return fewest == 0 ? fit.size() : fit.stream().mapToInt(Integer::bitCount).min().orElse(NONE);
            }
            int best = NONE;
            int least = Integer.MAX_VALUE;
            for (int i : s.of(house)) {
                int in = (int) fit.stream().filter(set -> (set >> i & 1) == 1).count();
                int out = fit.size() - in;
                if (in > 0 && out > 0 && Math.max(in, out) < least) {
                    least = Math.max(in, out);
                    best = i;
                }
            }
            return best;
        }

        int ofAll(String name, int n, int m) {
            int best = NONE;
            switch (name) {
                case "rate": {
                    need(n, 0, 20);
                    act();
                    int was = s.rate;
                    s.rate = n;
                    return was;
                }
                case "quarters": {
                    need(n, 1, 60);
                    act();
                    int paid = 0;
                    for (int i = 0; i < n; i++) {
                        paid += s.pass(true);
                    }
                    return paid;
                }
                case "stacks": {
                    if (n < 0 || n > 4) {
                        throw new IndexOutOfBoundsException();
                    }
                    int stacks = 0;
                    for (int i = 0; i < s.houses.size(); i++) {
                        boolean seen = (s.houses.get(i)[State.TOWERS] >> n & 1) == 1;
                        stacks += seen ? Integer.bitCount(s.smoke(i)) : 0;
                    }
                    return stacks;
                }
                case "towers":
                    for (int size = 0; size <= 5; size++) {
                        for (int set = 0; set < 32; set++) {
                            if (Integer.bitCount(set) == size && allSeen(set)) {
                                return set;
                            }
                        }
                    }
                    return NONE;
                case "brings":
                    need(n, 0, 20);
                    return s.yield(n);
                case "dear": {
                    int most = NONE;
                    for (int rate = 0; rate <= 20; rate++) {
                        int yield = s.yield(rate);
                        if (yield > most) {
                            most = yield;
                            best = rate;
                        }
                    }
                    return best;
                }
                case "round":
                    return round(n);
                case "alike": {
                    int pairs = 0;
                    for (int i = 0; i < s.houses.size(); i++) {
                        for (int k = 0; k < i; k++) {
                            pairs += s.warmth(i) == s.warmth(k) && s.pays(i) == s.pays(k) ? 1 : 0;
                        }
                    }
                    return pairs;
                }
                case "coldest":
                    for (int i = 0; i < s.houses.size(); i++) {
                        best = best < 0 || s.warmth(i) < s.warmth(best) ? i : best;
                    }
                    return best;
                case "first":
                    need(n, 1, 9999);
                    for (int i = 0; i <= 100; i++) {
                        if (s.after(i, false).taken >= n) {
                            return i;
                        }
                    }
                    return NONE;
                case "free": {
                    int bits = 0;
                    for (int i = 0; i < s.hearths.size(); i++) {
                        bits |= !s.is(i, 1) && s.tax(i) == 0 ? 1 << i : 0;
                    }
                    return bits;
                }
                case "hidden":
                    return s.bits(2);
                case "cheapest":
                    for (int i = 0; i < s.hearths.size(); i++) {
                        if (!s.is(i, 1) && s.tax(i) > 0 && (best < 0 || wallEach(i, best) < 0)) {
                            best = i;
                        }
                    }
                    return best;
                case "trial": {
                    need(n, 0, 100);
                    State then = s.after(n, true);
                    return m == 1 ? then.bits(2) : then.taken;
                }
                case "span": {
                    need(n, 0, 100);
                    List<Integer> taken = new ArrayList<>();
                    for (int seed = 1; seed <= 6; seed++) {
                        State from = s.copy();
                        from.seed = seed;
                        taken.add(from.after(n, true).taken);
                    }
                    return m == 1 ? java.util.Collections.max(taken) : java.util.Collections.min(taken);
                }
                case "log":
                    if (m < 0 || m > 3) {
                        throw new NoSuchElementException();
                    }
                    return n < 0 || n >= s.log.size() ? NONE : s.log.get(n)[m];
                case "seed": {
                    int was = s.seed;
                    s.seed = n;
                    return was;
                }
                default:
                    return count(n);
            }
        }

        boolean allSeen(int towers) {
            for (int i = 0; i < s.houses.size(); i++) {
                if (s.smoke(i) != 0 && (s.houses.get(i)[State.TOWERS] & towers) == 0) {
                    return false;
                }
            }
            return true;
        }

        int round(int n) {
            need(n, 0, 6);
            int best = 0;
            int most = 0;
            for (int size = 0; size <= n; size++) {
                for (int set = 0; set < 1 << s.houses.size(); set++) {
                    int hopes = 0;
                    for (int i = 0; i < s.houses.size(); i++) {
                        hopes += (set >> i & 1) * s.hopes(i);
                    }
                    if (Integer.bitCount(set) == size && hopes > most) {
                        most = hopes;
                        best = set;
                    }
                }
            }
            return best;
        }

        /** The wall for each tax of one hearth against that of another one. */
        int wallEach(int a, int b) {
            return Integer.compare(s.hearths.get(a)[State.WALL] * s.tax(b), s.hearths.get(b)[State.WALL] * s.tax(a));
        }

        int count(int what) {
            return switch (what) {
                case 0 -> s.houses.size();
                case 1 -> s.hearths.size();
                case 2 -> s.texts;
                case 3 -> s.law == null ? NONE : s.law.size();
                case 4 -> s.quarter;
                case 5 -> s.rate;
                case 6 -> s.fine;
                case 7 -> s.visit;
                case 8 -> s.bed;
                case 9 -> s.taken;
                case 10 -> s.bits(0);
                case 11 -> s.bits(1);
                case 12 -> s.houses.stream().mapToInt(r -> r[State.PURSE]).sum();
                case 13 -> s.log.size();
                case 14 -> past.size();
                default -> NONE;
            };
        }
    }

    private static int call(HearthMoney x, String name, int[] a) {
        switch (name) {
            case "feed": return x.feed(a[0], a[1], a[2], a[3], a[4]);
            case "end": return x.end(a[0]) ? 1 : 0;
            case "parish": return x.parish();
            case "law": return x.law();
            case "fault": return x.fault();
            case "house": return x.house(a[0], a[1]);
            case "hearth": return x.hearth(a[0], a[1]);
            case "wall": return x.wall(a[0]);
            case "open": return x.open(a[0]);
            case "hide": return x.hide(a[0]);
            case "paper": return x.paper(a[0], a[1] == 1) ? 1 : 0;
            case "flue": return x.flue(a[0], a[1]);
            case "rate": return x.rate(a[0]);
            case "give": return x.give(a[0], a[1]);
            case "quarters": return x.quarters(a[0]);
            case "stacks": return x.stacks(a[0]);
            case "towers": return x.towers();
            case "plan": return x.plan(a[0], a[1] == 1);
            case "brings": return x.brings(a[0]);
            case "dear": return x.dear();
            case "round": return x.round(a[0]);
            case "smokes": return x.smokes(a[0], a[1] == 1);
            case "look": return x.look(a[0]);
            case "window": return x.window(a[0]);
            case "odds": return x.odds(a[0]);
            case "alike": return x.alike();
            case "coldest": return x.coldest();
            case "broke": return x.broke(a[0]);
            case "game": return x.game(a[0]);
            case "crowd": return x.crowd(a[0]);
            case "warmer": return x.warmer(a[0]);
            case "first": return x.first(a[0]);
            case "free": return x.free();
            case "hidden": return x.hidden();
            case "cheapest": return x.cheapest();
            case "least": return x.least(a[0], a[1]);
            case "ahead": return x.ahead(a[0], a[1]);
            case "trial": return x.trial(a[0], a[1] == 1);
            case "span": return x.span(a[0], a[1] == 1);
            case "led": return x.led(a[0], a[1] == 1);
            case "log": return x.log(a[0], a[1]);
            case "seed": return x.seed(a[0]);
            case "undo": return x.undo() ? 1 : 0;
            case "image":
                x.image();
                return 0;
            case "back": return x.back() ? 1 : 0;
            case "count": return x.count(a[0]);
            default: throw new AssertionError(name);
        }
    }

    /** One run on a new object, beside the model. */
    private static final class Run {
        final int number;
        final Random random;
        final HearthMoney x = new HearthMoney();
        final Model model = new Model();
        final List<String> told = new ArrayList<>();
        boolean failed = false;

        Run(int number) {
            this.number = number;
            this.random = new Random(number);
        }

        String answerOf(boolean ofModel, String name, int[] a) {
            try {
                return Integer.toString(ofModel ? model.call(name, a) : HearthMoneyModel.call(x, name, a));
            } catch (IndexOutOfBoundsException | IllegalArgumentException | IllegalStateException
                | UnsupportedOperationException | NoSuchElementException e) {
                return e.getClass().getSimpleName();
            }
        }

        void both(String name, int... a) {
            String due = answerOf(true, name, a);
            String got = answerOf(false, name, a);
            String row = name + Arrays.toString(a).replace('[', '(').replace(']', ')') + " " + got;
            told.add(row);
            if (!got.equals(due) && !failed) {
                failed = true;
                System.out.println("run " + number + ", call " + told.size() + ": " + row + ", due is " + due);
                told.subList(Math.max(0, told.size() - 12), told.size()).forEach(r -> System.out.println("    " + r));
            }
        }

        int below(int n) {
            return random.nextInt(n);
        }

        boolean in(int n) {
            return below(n) == 0;
        }

        /** A number of these bounds, often at one of them, now and then beyond. */
        int near(int low, int high) {
            return switch (below(12)) {
                case 0 -> low;
                case 1 -> high;
                case 2 -> in(3) ? low - 1 : low;
                case 3 -> in(3) ? high + 1 : high;
                default -> low + below(high - low + 1);
            };
        }

        int someHouse() {
            return in(25) ? near(0, 6) : below(Math.max(1, model.s.houses.size()));
        }

        int someHearth() {
            return in(25) ? near(0, 12) : below(Math.max(1, model.s.hearths.size()));
        }

        void put(byte[] text) {
            for (int at = 0; at < text.length; at += 20) {
                int[] five = new int[5];
                for (int i = 0; i < 20; i++) {
                    int value = at + i < text.length ? text[at + i] & 255 : 0;
                    five[i / 4] |= value << 8 * (3 - i % 4);
                }
                both("feed", five);
            }
            both("end", text.length);
        }

        String join(List<String> things) {
            StringBuilder text = new StringBuilder(in(8) ? "  " : "");
            for (int i = 0; i < things.size(); i++) {
                String thing = things.get(i);
                boolean apart = i > 0 && isLetter(thing.charAt(0)) == isLetter(last(things.get(i - 1)))
                    && isPlain(thing.charAt(0)) && isPlain(last(things.get(i - 1)));
                text.append(apart || in(12) ? " ".repeat(1 + (in(9) ? below(3) : 0)) : "").append(thing);
            }
            return text.append(in(8) ? " " : "").toString();
        }

        char last(String thing) {
            return thing.charAt(thing.length() - 1);
        }

        boolean isLetter(char c) {
            return c >= 'a' && c <= 'z';
        }

        boolean isPlain(char c) {
            return isLetter(c) || c >= '0' && c <= '9';
        }

        /** Now and then one thing of a text is put in another's place, left out, told twice, or the text is cut. */
        void spoil(List<String> things) {
            List<String> odd = List.of("house", "hearth", "of", "if", "(", ")", "not", "and", "or", ";", "+", "<", ">",
                "0", "7", "99", "100", "999", "1000", "0000", "tax", "free", "find", "paper", "pot", "warm", "windows",
                "tells", "sees", "quarter", "hearths", "x", "A", "\u00e9", "\u0000", "fires");
            int at = below(things.size());
            switch (below(4)) {
                case 0 -> things.set(at, odd.get(below(odd.size())));
                case 1 -> things.remove(at);
                case 2 -> things.add(at, odd.get(below(odd.size())));
                default -> things.subList(at, things.size()).clear();
            }
        }

        void tell(String name, List<String> things) {
            if (in(4) && !things.isEmpty()) {
                spoil(things);
            }
            byte[] text = join(things).getBytes(StandardCharsets.ISO_8859_1);
            if (text.length <= 400) {
                put(text);
            }
            both(name);
            both("fault");
        }

        String number(int low, int high) {
            int n = in(60) ? near(low, high) : low + below(high - low + 1);
            return (in(10) && n >= 0 && n < 100 ? "0" : "") + Math.max(0, n);
        }

        List<String> parish() {
            List<String> things = new ArrayList<>();
            int lines = in(20) ? 13 + below(3) : below(12);
            int houses = model.s.houses.size();
            for (int i = 0; i < lines; i++) {
                if (i > 0) {
                    things.add(";");
                }
                int pick = below(10);
                if (pick < 2 && (houses < 6 || in(20)) || houses == 0 && pick < 7) {
                    houses++;
                    things.addAll(List.of("house", number(0, in(3) ? 999 : 60), "windows", number(0, 30)));
                    things.addAll(in(4) ? List.of("paper") : List.of());
                    things.addAll(in(3) ? List.of("tells", number(0, 100)) : List.of());
                } else if (pick < 3) {
                    things.addAll(List.of("sees", number(0, 4), number(0, Math.max(0, houses - 1))));
                } else if (pick < 8) {
                    String house = in(2) ? "0" : number(0, Math.max(0, houses - 1));
                    things.addAll(List.of("hearth", KINDS.get(below(4)), "of", house));
                    things.addAll(List.of("flue", number(0, in(2) ? 9 : 3), "warm", number(1, 9)));
                    things.addAll(List.of("wall", number(1, in(2) ? 30 : 6)));
                } else {
                    String which = List.of("rate", "fine", "visit", "bed", "quarter").get(below(5));
                    int high = which.equals("fine") ? 50 : which.equals("visit") ? 100 : which.equals("quarter") ? 999 : 20;
                    things.addAll(List.of(which, number(0, in(3) ? Math.min(6, high) : high)));
                }
            }
            return things;
        }

        List<String> law() {
            List<String> things = new ArrayList<>();
            int lines = in(20) ? 11 + below(3) : below(6);
            for (int i = 0; i < lines; i++) {
                if (i > 0) {
                    things.add(";");
                }
                switch (below(5)) {
                    case 0 -> things.add("free");
                    case 1, 2 -> things.addAll(List.of("find", number(0, 99)));
                    default -> things.addAll(List.of("tax", number(0, in(3) ? 99 : 8)));
                }
                if (!in(4) || things.get(things.size() - 1).equals("free")) {
                    things.add("if");
                    condition(things, 0);
                }
            }
            return things;
        }

        void condition(List<String> things, int depth) {
            atom(things, depth);
            while (in(3)) {
                things.add(in(2) ? "and" : "or");
                atom(things, depth);
            }
        }

        void atom(List<String> things, int depth) {
            int deepest = in(15) ? 7 : 6;
            int pick = below(depth < deepest ? 8 : 5);
            if (pick < 2) {
                things.add(in(3) ? "paper" : KINDS.get(below(4)));
            } else if (pick < 5) {
                sum(things);
                things.add(in(2) ? "<" : ">");
                sum(things);
            } else if (pick < 7) {
                things.add("not");
                atom(things, depth + 1);
            } else {
                things.add("(");
                condition(things, depth + 1);
                things.add(")");
            }
        }

        void sum(List<String> things) {
            things.add(in(2) ? number(0, in(4) ? 999 : 9) : PARTS.get(below(6)));
            while (in(4)) {
                things.add("+");
                things.add(in(2) ? number(0, 9) : PARTS.get(below(6)));
            }
        }

        /** FLUES told of a house: most often such as it has. */
        void putSmoke(int house) {
            int pairs = in(12) ? 19 + below(3) : below(4);
            byte[] told = new byte[2 * pairs + (in(20) ? 1 : 0)];
            for (int i = 0; i < told.length; i++) {
                int flue = below(10);
                if (house >= 0 && house < model.s.houses.size() && !model.s.of(house).isEmpty() && !in(5)) {
                    List<Integer> its = model.s.of(house);
                    flue = model.s.hearths.get(its.get(below(its.size())))[State.FLUE];
                }
                told[i] = (byte) (i % 2 == 0 ? flue : below(2));
                if (in(80)) {
                    told[i] = (byte) (in(2) ? 2 + i % 2 * 8 : below(256));
                }
            }
            put(told);
        }

        void act() {
            switch (below(9)) {
                case 0 -> both("wall", someHearth());
                case 1 -> both("open", someHearth());
                case 2, 3 -> both("hide", someHearth());
                case 4 -> both("paper", someHouse(), below(2));
                case 5 -> both("flue", someHearth(), in(2) ? below(3) : near(0, 9));
                case 6 -> both("rate", in(3) ? near(0, 20) : below(5));
                case 7 -> both("give", someHouse(), near(1, 999));
                default -> both("quarters", in(5) ? near(1, 60) : 1 + below(3));
            }
        }

        void ask() {
            switch (below(34)) {
                case 0, 1 -> both("house", someHouse(), near(0, 10));
                case 2, 3 -> both("hearth", someHearth(), near(0, 7));
                case 4 -> both("stacks", near(0, 4));
                case 5 -> both("towers");
                case 6, 7 -> both("plan", someHouse(), below(2));
                case 8 -> both("brings", near(0, 20));
                case 9 -> both(in(4) ? "dear" : "cheapest");
                case 10 -> both("round", near(0, 6));
                case 11, 12 -> {
                    int house = someHouse();
                    putSmoke(house);
                    both("smokes", house, below(2));
                }
                case 13 -> {
                    int house = someHouse();
                    putSmoke(house);
                    both("look", house);
                }
                case 14 -> both("window", someHouse());
                case 15 -> both("odds", someHouse());
                case 16 -> both("alike");
                case 17 -> both("coldest");
                case 18 -> both("broke", someHouse());
                case 19 -> both("game", someHearth());
                case 20 -> both("crowd", someHouse());
                case 21 -> both("warmer", someHouse());
                case 22 -> both("first", in(3) ? near(1, 9999) : Math.min(9999, model.s.taken + below(90)));
                case 23 -> both("free");
                case 24 -> both("hidden");
                case 25 -> both("cheapest");
                case 26 -> both("least", someHouse(), in(5) ? near(0, 999) : below(30));
                case 27 -> both("ahead", someHouse(), near(0, 100));
                case 28 -> both("trial", near(0, in(2) ? 100 : 9), below(2));
                case 29 -> both("span", near(0, in(2) ? 100 : 9), below(2));
                case 30 -> both("led", someHouse(), below(2));
                case 31 -> both("log", in(4) ? near(0, 60) : below(1 + model.s.log.size()), near(0, 3));
                case 32 -> both("seed", in(2) ? below(9) : random.nextInt());
                default -> both("count", near(0, 14));
            }
        }

        void go() {
            if (number % 8 == 0) {
                fillLog();
            }
            int tellFirst = 1 + below(3);
            for (int i = 0; i < tellFirst; i++) {
                tell("parish", parish());
            }
            if (number % 8 == 1) {
                tellMany();
            }
            // Runs of one kind or another: some with much undoing, some with many texts, some with much asking.
            int undos = 2 + below(30);
            int texts = 20 + below(in(4) ? 10 : 200);
            int acts = 2 + below(4);
            while (told.size() < CALLS && !failed) {
                if (in(texts)) {
                    tell(in(2) ? "law" : "parish", in(30) ? new ArrayList<>() : in(2) ? law() : parish());
                } else if (in(texts)) {
                    tell("law", law());
                } else if (in(texts)) {
                    tell("parish", parish());
                } else if (in(undos)) {
                    both("undo");
                } else if (in(60)) {
                    both(in(2) ? "image" : "back");
                } else if (in(200)) {
                    both("feed", random.nextInt(), random.nextInt(), random.nextInt(), random.nextInt(), random.nextInt());
                    both("end", near(0, 20));
                } else if (in(acts)) {
                    act();
                } else {
                    ask();
                }
            }
            seeAll();
        }

        /** So many are hidden and found that the log has no room for all. */
        void fillLog() {
            String text = "house 999 windows 3;house 99 windows 8;visit 90;bed 1";
            for (int i = 0; i < 4; i++) {
                text += ";hearth fire of 0 flue " + i + " warm 1 wall 1;hearth pot of 1 flue 0 warm 1 wall 1";
            }
            put(text.getBytes(StandardCharsets.ISO_8859_1));
            both("parish");
            put("find 95;tax 1 if quarter>9".getBytes(StandardCharsets.ISO_8859_1));
            both("law");
            for (int i = 0; i < 16; i++) {
                for (int hearth = 0; hearth < 8; hearth++) {
                    if (!in(4)) {
                        both("hide", hearth);
                    }
                }
                both("quarters", 1);
                both("give", 1, 90);
                both("log", below(64), below(4));
                both("led", someHouse(), below(2));
            }
        }

        /** More texts than may be told. */
        void tellMany() {
            for (int i = 0; i < 13; i++) {
                tell("parish", new ArrayList<>(in(5) ? List.of() : List.of("bed", number(0, 20))));
                if (in(6)) {
                    both(in(2) ? "image" : "back");
                }
            }
        }

        void seeAll() {
            for (int what = 0; what < 15; what++) {
                both("count", what);
            }
            for (int i = 0; i < model.s.houses.size() && told.size() < 505; i++) {
                for (int what : new int[] {0, 1, 2, 3, 4, 10}) {
                    both("house", i, what);
                }
            }
            for (int i = 0; i < model.s.hearths.size() && told.size() < 500; i++) {
                for (int what = 0; what < 6; what++) {
                    both("hearth", i, what);
                }
            }
            while (told.size() < 511 && both14() > 0) {
                both("undo");
            }
        }

        int both14() {
            both("count", 14);
            return model.past.size();
        }
    }

    public static void main(String[] args) {
        int failed = 0;
        long calls = 0;
        for (int i = 0; i < RUNS && failed < 10; i++) {
            Run run = new Run(i);
            run.go();
            failed += run.failed ? 1 : 0;
            calls += run.told.size();
        }
        System.out.println(calls + " calls, " + failed + " runs are not as due");
        System.exit(failed == 0 ? 0 : 1);
    }
}
