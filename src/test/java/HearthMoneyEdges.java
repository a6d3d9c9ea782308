import java.io.IOException;
import java.nio.charset.StandardCharsets;
import java.nio.file.Files;
import java.nio.file.Path;
import java.util.ArrayList;
import java.util.Arrays;
import java.util.List;
import java.util.NoSuchElementException;
import java.util.function.IntSupplier;

/** A test for each sentence of the document that names a boundary case; the sentence is the test's name. */
public final class HearthMoneyEdges {
    private static final int BOUNDS = -1001;
    private static final int ARGUMENT = -1002;
    private static final int STATE = -1003;
    private static final int ELEMENT = -1004;
    private static final int UNSUPPORTED = -1005;
    private static final int NONE = HearthMoney.NONE;
    private static final int MIN = Integer.MIN_VALUE;
    private static final int MAX = Integer.MAX_VALUE;
    private static final int[] NO_HOUSE_OR_HEARTH = {-1, 12, 255, MAX, MIN};

    private static final Path DOCUMENT = Path.of("../shared/DOC.md");

    private static int wrong = 0;
    private static String sentence = "";
    private static final List<String> sentences = new ArrayList<>();

    private static void due(String call, int got, int want) {
        if (got != want) {
            wrong++;
            System.out.println("\"" + sentence + "\": " + call + " answered " + got + ", due is " + want);
        }
    }

    private static void due(String call, boolean got, boolean want) {
        due(call, got ? 1 : 0, want ? 1 : 0);
    }

    private static void edge(String text, Runnable test) {
        sentence = text;
        sentences.add(text);
        test.run();
    }

    /** The answer, or a number that stands for the exception, which is of just that class. */
    private static int ask(IntSupplier call) {
        try {
            return call.getAsInt();
        } catch (RuntimeException e) {
            Class<?> c = e.getClass();
            return c == IndexOutOfBoundsException.class ? BOUNDS : c == IllegalArgumentException.class ? ARGUMENT
                : c == IllegalStateException.class ? STATE : c == NoSuchElementException.class ? ELEMENT
                : c == UnsupportedOperationException.class ? UNSUPPORTED : -9999;
        }
    }

    private static void put(HearthMoney x, byte[] bytes) {
        x.end(0);
        for (int i = 0; i < bytes.length; i += 20) {
            byte[] b = Arrays.copyOf(Arrays.copyOfRange(bytes, i, Math.min(bytes.length, i + 20)), 20);
            int[] n = new int[5];
            for (int k = 0; k < 20; k++) {
                n[k / 4] = n[k / 4] << 8 | b[k] & 255;
            }
            x.feed(n[0], n[1], n[2], n[3], n[4]);
        }
        due("end(" + bytes.length + ")", x.end(bytes.length), true);
    }

    private static void put(HearthMoney x, String text) {
        put(x, text.getBytes(StandardCharsets.ISO_8859_1));
    }

    private static int parish(HearthMoney x, String text) {
        put(x, text);
        return ask(x::parish);
    }

    private static int law(HearthMoney x, String text) {
        put(x, text);
        return ask(x::law);
    }

    private static byte[] bytes(int... told) {
        byte[] b = new byte[told.length];
        for (int i = 0; i < told.length; i++) {
            b[i] = (byte) told[i];
        }
        return b;
    }

    private static int smokes(HearthMoney x, int house, boolean fewest, int... told) {
        put(x, bytes(told));
        return ask(() -> x.smokes(house, fewest));
    }

    private static int look(HearthMoney x, int house, int... told) {
        put(x, bytes(told));
        return ask(() -> x.look(house));
    }

    private static HearthMoney of(String text) {
        HearthMoney x = new HearthMoney();
        due("parish(" + text + ")", parish(x, text), 1);
        return x;
    }

    private static HearthMoney of(String text, String law) {
        HearthMoney x = of(text);
        due("law(" + law + ")", law(x, law) >= 0, true);
        return x;
    }

    private static String repeat(String line, int times) {
        List<String> lines = new ArrayList<>();
        for (int i = 0; i < times; i++) {
            lines.add(line);
        }
        return String.join(";", lines);
    }

    private static String houses(int many) {
        return repeat("house 9 windows 0", many);
    }

    private static String hearths(int house, int many) {
        return repeat("hearth fire of " + house + " flue 0 warm 1 wall 1", many);
    }

    /** A text behind one of a HOUSE. */
    private static void right(String text) {
        HearthMoney x = of("house 1 windows 1");
        due("parish(" + text + ")", parish(x, text), 2);
        due("fault() behind " + text, x.fault(), NONE);
    }

    private static void wrong(String text, int at) {
        HearthMoney x = of("house 1 windows 1");
        due("parish(" + text + ")", parish(x, text), ARGUMENT);
        due("fault() behind " + text, x.fault(), at);
    }

    private static void rightLaw(String text, int lines) {
        HearthMoney x = new HearthMoney();
        due("law(" + text + ")", law(x, text), lines);
        due("fault() behind " + text, x.fault(), NONE);
    }

    private static void wrongLaw(String text, int at) {
        HearthMoney x = new HearthMoney();
        due("law(" + text + ")", law(x, text), ARGUMENT);
        due("fault() behind " + text, x.fault(), at);
    }

    /** The number at # may be the bounds and nothing beyond them. */
    private static void bounds(String line, int low, int high) {
        right(line.replace("#", low + ""));
        right(line.replace("#", high + ""));
        wrong(line.replace("#", high + 1 + ""), line.indexOf('#'));
        wrong(line.replace("#", low - 1 + ""), line.indexOf('#'));
    }

    private static int fact(String text, int house, int what) {
        return of(text).house(house, what);
    }

    /** All that a parish tells, so that two of them can be compared. */
    private static List<Integer> all(HearthMoney x) {
        List<Integer> told = new ArrayList<>();
        for (int what = 0; what <= 14; what++) {
            told.add(x.count(what));
        }
        for (int i = 0; i < x.count(0); i++) {
            for (int what = 0; what <= 10; what++) {
                told.add(x.house(i, what));
            }
        }
        for (int i = 0; i < x.count(1); i++) {
            for (int what = 0; what <= 7; what++) {
                told.add(x.hearth(i, what));
            }
        }
        for (int ago = 0; ago < x.count(13); ago++) {
            for (int what = 0; what < 4; what++) {
                told.add(x.log(ago, what));
            }
        }
        int seed = x.seed(0);
        x.seed(seed);
        told.add(seed);
        return told;
    }

    private static int next(int seed) {
        return (int) (1103515245L * seed + 12345L);
    }

    /** The SEED from which the next one is this. */
    private static int before(int next) {
        int inverse = 1;
        for (int i = 0; i < 5; i++) {
            inverse *= 2 - 1103515245 * inverse;
        }
        return inverse * (next - 12345);
    }

    /** A SEED whose first DRAW is this. */
    private static int drawing(int draw) {
        return before(draw << 16);
    }

    // ---- An object, and the terms.

    private static void object() {
        edge("An object is used for at most 512 calls after it has been made", () -> {
            HearthMoney x = of("house 0 windows 0");
            // feed, two times end, parish: four calls by now.
            for (int i = 5; i < 512; i++) {
                due("give", x.give(0, 1), i - 4);
            }
            due("the 512th call", x.count(14), 12);
        });
        edge("A parish without HOUSES.", () -> {
            HearthMoney x = new HearthMoney();
            for (int what : new int[] {0, 1, 2, 4, 9, 10, 11, 12, 13, 14}) {
                due("count(" + what + ")", x.count(what), 0);
            }
            due("LINES", x.count(3), NONE);
            due("the TAPE", x.end(1), false);
            due("quarters(60)", x.quarters(60), 0);
            due("QUARTER", x.count(4), 60);
            due("no draws without HOUSES", x.seed(1), 1);
            due("brings(20)", x.brings(20), 0);
            due("span(100)", x.span(100, true), 0);
            due("smokes", smokes(x, 0, false), BOUNDS);
        });
    }

    private static void terms() {
        edge("HOUSES (at most 6, numbered from 0 on)", () -> {
            HearthMoney x = of(houses(6));
            due("HOUSES", x.count(0), 6);
            due("the last one", x.house(5, 0), 9);
            due("a 7th", ask(() -> x.house(6, 0)), BOUNDS);
            due("a 7th in a text of its own", parish(x, " house 1 windows 1"), ARGUMENT);
            due("its first word", x.fault(), 1);
            due("a 7th behind another line", parish(x, "rate 3; house 1 windows 1"), ARGUMENT);
            due("its first word", x.fault(), 8);
            due("HOUSES", x.count(0), 6);
            due("RATE", x.count(5), 2);
        });
        edge("PURSE 0 to 9999", () -> {
            HearthMoney x = of("house 0 windows 0;house 999 windows 0;hearth fire of 0 flue 0 warm 1 wall 1");
            due("PURSE", x.house(0, 0), 0);
            due("wall", ask(() -> x.wall(0)), STATE);
            due("hide", ask(() -> x.hide(0)), STATE);
            due("quarters", x.quarters(60), 0);
            due("PURSE not below 0", x.house(0, 0), 0);
            for (int i = 2; i <= 10; i++) {
                due("give", x.give(1, 999), 999 * i);
            }
            due("9999", x.give(1, 9), 9999);
            due("9999 at most", x.give(1, 1), 9999);
            due("PURSES together", x.count(12), 9999);
        });
        edge("a PAPER or not (not at first)", () -> {
            due("not at first", fact("house 9 windows 0", 0, 1), 0);
            due("told", fact("house 9 windows 0 paper", 0, 1), 1);
        });
        edge("WINDOWS 0 to 30", () -> {
            bounds("house 9 windows #", 0, 30);
            due("0", fact("house 9 windows 0", 0, 2), 0);
            due("30", fact("house 9 windows 30", 0, 2), 30);
        });
        edge("TOWERS 0 to 4 from which its stacks are seen, as bits", () -> {
            bounds("sees # 0", 0, 4);
            due("none", fact("house 9 windows 0", 0, 3), 0);
            due("all", fact("house 9 windows 0;sees 0 0;sees 1 0;sees 2 0;sees 3 0;sees 4 0", 0, 3), 31);
        });
        edge("TELLS: 0 to 100", () -> {
            bounds("house 9 windows 0 tells #", 0, 100);
            due("not told", fact("house 9 windows 0", 0, 4), 0);
            due("100", fact("house 9 windows 0 tells 100", 0, 4), 100);
        });
        edge("HEARTHS (at most 12, numbered from 0 on; at most 6 of one HOUSE)", () -> {
            HearthMoney x = of(houses(3) + ";" + hearths(0, 6));
            due("six more", parish(x, hearths(1, 6)), 2);
            due("HEARTHS", x.count(1), 12);
            due("the last one", x.hearth(11, 0), 1);
            due("a 13th", ask(() -> x.hearth(12, 0)), BOUNDS);
            due("a 13th of a HOUSE without", parish(x, "  " + hearths(2, 1)), ARGUMENT);
            due("its first word", x.fault(), 2);
            HearthMoney y = of(houses(3) + ";" + hearths(0, 5) + ";" + hearths(1, 1));
            due("six of one", parish(y, hearths(0, 1)), 2);
            due("seven of one", parish(y, hearths(0, 1)), ARGUMENT);
            due("its HOUSE", y.fault(), 15);
            due("of another one", parish(y, hearths(2, 5)), 3);
            due("12", y.count(1), 12);
        });
        edge("(at most 6, numbered from 0 on): PURSE", () -> {
            HearthMoney x = full();
            for (int i = 0; i < 6; i++) {
                due("HEARTHS", x.house(i, 10), 65 << i);
                due("PAYS", x.house(i, 5), 2);
                due("HOPES", x.house(i, 6), 2);
                due("SHARE", x.house(i, 9), 16);
                due("PLAN", x.plan(i, false), 0);
                due("PLAN", x.plan(i, true), 4 * (i + 1) - 2);
                due("LEAST", x.least(i, 0), 1 << i);
                due("CROWD", x.crowd(i), i);
                due("WARMER", x.warmer(i), NONE);
                due("BROKE", x.broke(i), 4);
                due("AHEAD", x.ahead(i, 1), 6);
                due("SMOKES", smokes(x, i, false), 4);
                due("LOOK", look(x, i), i);
                due("WINDOW", x.window(i), -2);
                due("ODDS", x.odds(i), 5000);
                due("GAME", x.game(6 + i), 0);
                due("LED", x.led(i, false), 0);
            }
            due("TOWERS", x.towers(), 8);
            due("STACKS", x.stacks(3), 6);
            due("open", x.count(10), 63);
            due("HIDDEN", x.hidden(), 4032);
            due("FREE", x.free(), 0);
            due("CHEAPEST", x.cheapest(), 0);
            due("PURSES", x.count(12), 48);
            due("YIELD", x.brings(3), 18);
            due("DEAR", x.dear(), 7);
            due("ROUND", x.round(5), 31);
            due("ALIKE", x.alike(), 0);
            due("COLDEST", x.coldest(), 0);
            due("FIRST", x.first(48), 4);
            due("quarters", x.quarters(60), 48);
        });
        edge("KIND 0 fire, 1 oven, 2 forge, 3 pot", () -> {
            String[] kinds = {"fire", "oven", "forge", "pot"};
            for (int i = 0; i < 4; i++) {
                due(kinds[i], of("house 9 windows 0;hearth " + kinds[i] + " of 0 flue 0 warm 1 wall 1").hearth(0, 1), i);
            }
            for (String none : new String[] {"fir", "fires", "pots", "Pot", "0", "of", "(", ""}) {
                wrong("hearth " + none, 7);
            }
        });
        edge("a FLUE 0 to 9 of its HOUSE (several may have one)", () -> {
            bounds("hearth fire of 0 flue # warm 1 wall 1", 0, 9);
            due("six have one", fact(houses(1) + ";" + hearths(0, 6), 0, 8), 1);
        });
        edge("WARM 1 to 9", () -> bounds("hearth fire of 0 flue 0 warm # wall 1", 1, 9));
        edge("WALL 1 to 30 (what walling up costs)", () -> {
            bounds("hearth fire of 0 flue 0 warm 1 wall #", 1, 30);
            HearthMoney x = of("house 31 windows 0;hearth fire of 0 flue 0 warm 1 wall 30;hearth fire of 0 flue 0 warm 1 wall 1");
            due("30", x.wall(0), 1);
            due("1", x.wall(1), 0);
        });
        edge("a STATE: 0 open (at first), 1 walled up, 2 hidden", () -> {
            HearthMoney x = of("house 9 windows 0;hearth fire of 0 flue 0 warm 1 wall 1");
            due("open", x.hearth(0, 5), 0);
            x.hide(0);
            due("hidden", x.hearth(0, 5), 2);
            x.wall(0);
            due("walled up", x.hearth(0, 5), 1);
        });
        edge("RATE 0 to 20 (2 at first)", () -> setting("rate", 5, 20, 2));
        edge("FINE 0 to 50 (5 at first)", () -> setting("fine", 6, 50, 5));
        edge("VISIT 0 to 100 (50 at first)", () -> setting("visit", 7, 100, 50));
        edge("BED 0 to 20 (1 at first)", () -> setting("bed", 8, 20, 1));
        edge("QUARTER: 0 at first", () -> due("QUARTER", new HearthMoney().count(4), 0));
        edge("TAKEN: what was paid in all (0 at first)", () -> {
            HearthMoney x = of("house 9 windows 0;visit 0;" + hearths(0, 1));
            due("at first", x.count(9), 0);
            x.quarters(1);
            x.quarters(2);
            due("in all", x.count(9), 6);
        });
    }

    /** Six HOUSES, of each an open HEARTH and a hidden one, all that there can be. */
    private static HearthMoney full() {
        List<String> lines = new ArrayList<>();
        for (int i = 0; i < 12; i++) {
            lines.add("hearth pot of " + i % 6 + " flue " + i % 6 + " warm " + (i % 6 + 1) + " wall 1");
        }
        HearthMoney x = of(houses(6) + ";sees 3 0;sees 3 1;sees 3 2;sees 3 3;sees 3 4;sees 3 5");
        due("a text", parish(x, String.join(";", lines.subList(0, 6))), 2);
        due("a text", parish(x, String.join(";", lines.subList(6, 12))), 3);
        for (int i = 6; i < 12; i++) {
            due("hide", x.hide(i), 8);
        }
        return x;
    }

    private static void setting(String word, int what, int high, int atFirst) {
        due("at first", new HearthMoney().count(what), atFirst);
        bounds(word + " #", 0, high);
        due("the least", of(word + " 0").count(what), 0);
        due("the most", of(word + " " + high).count(what), high);
        due("the latest line", of(word + " 1;" + word + " 3").count(what), 3);
    }

    // ---- Texts.

    private static void parishTexts() {
        edge("THE PARISH is told in texts (at most 12, one behind another)", () -> {
            HearthMoney x = new HearthMoney();
            for (int i = 1; i <= 12; i++) {
                due("text", parish(x, i == 5 ? "" : "quarter " + i), i);
            }
            due("a 13th", parish(x, ""), UNSUPPORTED);
            due("texts", x.count(2), 12);
            due("QUARTER", x.count(4), 12);
            due("the law is none of them", law(x, "free"), 1);
            x.image();
            HearthMoney y = of("rate 1");
            y.image();
            for (int i = 2; i <= 12; i++) {
                parish(y, "");
            }
            y.back();
            due("texts of the image", parish(y, ""), 2);
        });
        edge("LINE { ; LINE }, at most 14", () -> {
            right(repeat("bed 1", 14));
            wrong(repeat("bed 1", 15), 84);
            wrong(repeat("bed 1", 14) + " ;  bed 1", 87);
            wrong(repeat("bed 1", 14) + ";", 84);
            wrong(repeat("bed 1", 14) + " bed", 84);
        });
        edge("house N windows N [ paper ] [ tells N ]", () -> {
            right("house 1 windows 1");
            right("house 1 windows 1 paper");
            right("house 1 windows 1 tells 1");
            right("house 1 windows 1 paper tells 1");
            wrong("house 1 windows 1 tells 1 paper", 26);
            wrong("house 1 windows 1 paper paper", 24);
            wrong("house 1 windows 1 tells 1 tells 1", 26);
            wrong("house 1 windows 1 paper tells", 29);
            wrong("house 1 paper", 8);
            wrong("house windows 1", 6);
        });
        edge("N of house: PURSE 0 to 999", () -> {
            bounds("house # windows 1", 0, 999);
            due("0", fact("house 0 windows 0", 0, 0), 0);
            due("999", fact("house 999 windows 0", 0, 0), 999);
        });
        edge("sees: a TOWER from which H is seen, too", () -> {
            due("too", fact(houses(2) + ";sees 1 1;sees 3 1", 1, 3), 10);
            due("twice", fact(houses(2) + ";sees 1 1;sees 1 1", 1, 3), 2);
            HearthMoney x = of(houses(1) + ";sees 0 0");
            parish(x, "sees 4 0");
            due("in a text behind", x.house(0, 3), 17);
        });
        edge("H: a HOUSE that there is by then", () -> {
            bounds("sees 0 #", 0, 0);
            bounds("hearth fire of # flue 0 warm 1 wall 1", 0, 0);
            right("house 1 windows 1;sees 0 1;hearth fire of 1 flue 0 warm 1 wall 1");
            wrong("sees 0 1;house 1 windows 1", 7);
            wrong("hearth fire of 1 flue 0 warm 1 wall 1;house 1 windows 1", 15);
            HearthMoney none = new HearthMoney();
            due("none by then", parish(none, "sees 0 0"), ARGUMENT);
            due("fault", none.fault(), 7);
            HearthMoney six = of(houses(6) + ";sees 0 5");
            due("a 7th", parish(six, "sees 0 6"), ARGUMENT);
            due("999", parish(six, "hearth fire of 999"), ARGUMENT);
            due("fault", six.fault(), 15);
        });
        edge("of hearth: one with fewer than 6", () -> {
            HearthMoney x = of(houses(2) + ";" + hearths(1, 6));
            x.wall(0);
            x.hide(1);
            due("walled up and hidden ones count", parish(x, hearths(1, 1)), ARGUMENT);
            due("its HOUSE", x.fault(), 15);
            due("the other one", parish(x, hearths(0, 6)), 2);
        });
        edge("quarter: 0 to 999", () -> {
            bounds("quarter #", 0, 999);
            due("999", of("quarter 999").count(4), 999);
            HearthMoney x = of("quarter 5");
            x.quarters(3);
            parish(x, "quarter 0");
            due("set back", x.count(4), 0);
        });
        edge("Numbers are of 1 to 3 digits.", () -> {
            for (String seven : new String[] {"7", "07", "007"}) {
                due(seven, of("rate " + seven).count(5), 7);
            }
            for (String none : new String[] {"0007", "00000000000007", "4294967303", "-7", "+7", "", "seven"}) {
                wrong("rate " + none, 5);
            }
        });
    }

    private static void lawTexts() {
        edge("THE LAW (a text, in place of the one before)", () -> {
            HearthMoney x = of(houses(1) + ";" + hearths(0, 1), "tax 5;find 40");
            due("TAX", x.hearth(0, 6), 7);
            law(x, "free");
            due("TAX", x.hearth(0, 6), 0);
            due("FOUND by", x.hearth(0, 7), 0);
            due("an empty one", law(x, ""), 0);
            due("TAX", x.hearth(0, 6), 2);
        });
        edge("LINE { ; LINE }, at most 12: tax N", () -> {
            rightLaw(repeat("tax 1", 12), 12);
            wrongLaw(repeat("tax 1", 13), 72);
            wrongLaw(repeat("free", 12) + " ; free", 62);
            wrongLaw(repeat("free", 12) + ";", 60);
            HearthMoney x = of(houses(1) + ";rate 20;" + hearths(0, 1), repeat("tax 99", 12));
            due("the greatest TAX", x.hearth(0, 6), 20 + 12 * 99);
        });
        edge("All numbers are of 1 to 3 digits (N 0 to 99).", () -> {
            rightLaw("tax 0;find 0;tax 99;find 99;tax 099;find 000", 6);
            wrongLaw("tax 100", 4);
            wrongLaw("find 100", 5);
            wrongLaw("tax 0099", 4);
            wrongLaw("tax -1", 4);
            rightLaw("free if 0 < 999 and 001 > 000", 1);
            wrongLaw("free if 1000 > 1", 8);
            wrongLaw("free if 0001 > 1", 8);
            wrongLaw("free if 1 > 1 + 4294967297", 16);
        });
        edge("hearths: how many of its HOUSE are not walled up", () -> {
            HearthMoney x = of(houses(2) + ";" + hearths(0, 6) + ";" + hearths(1, 1), "find 1 if hearths > 0;find 2 if hearths > 1;"
                + "find 4 if hearths > 2;find 8 if hearths > 3;find 16 if hearths > 4;find 32 if hearths > 5");
            x.hide(5);
            for (int walled = 0; walled < 6; walled++) {
                due("FOUND by with so many walled up " + walled, x.hearth(0, 7), (1 << 6 - walled) - 1);
                x.wall(walled);
            }
            due("none", x.hearth(0, 7), 0);
            due("of the other HOUSE", x.hearth(6, 7), 1);
        });
        edge("Of a HEARTH: paper: its HOUSE has a PAPER; fire, oven, forge, pot: its KIND", () -> {
            HearthMoney x = of("house 9 windows 0;house 9 windows 0 paper;hearth fire of 0 flue 0 warm 1 wall 1;hearth oven of 0 flue 0 warm 1 wall 1;"
                + "hearth forge of 0 flue 0 warm 1 wall 1;hearth pot of 0 flue 0 warm 1 wall 1;hearth fire of 1 flue 0 warm 1 wall 1");
            String[] words = {"fire", "oven", "forge", "pot", "paper"};
            int[] bits = {17, 2, 4, 8, 16};
            for (int i = 0; i < words.length; i++) {
                law(x, "free if " + words[i]);
                due(words[i], x.free(), bits[i]);
                law(x, "free if not " + words[i] + " and " + (i % 2 == 0 ? "1 < 2" : "2 > 1"));
                due("not " + words[i], x.free(), 31 - bits[i]);
            }
            law(x, "free if paper");
            x.paper(1, false);
            due("taken away", x.free(), 0);
            x.paper(0, true);
            due("given", x.free(), 15);
        });
        edge("PART: NUMBER | house | flue | warm | hearths | windows | quarter.", () -> {
            HearthMoney x = of("house 9 windows 0;house 9 windows 5;quarter 6;hearth fire of 1 flue 3 warm 4 wall 1;hearth fire of 1 flue 0 warm 1 wall 1;hearth fire of 0 flue 0 warm 1 wall 1");
            String[] parts = {"7", "007", "house", "flue", "warm", "hearths", "windows", "quarter", "0"};
            int[] are = {7, 7, 1, 3, 4, 2, 5, 6, 0};
            for (int i = 0; i < parts.length; i++) {
                law(x, "tax 9 if " + parts[i] + " + 1 > " + are[i] + " and " + parts[i] + " < " + (are[i] + 1));
                due(parts[i] + " is " + are[i], x.hearth(0, 6), 11);
                law(x, "tax 9 if " + parts[i] + " > " + are[i] + " or " + parts[i] + " < " + are[i]);
                due(parts[i] + " is nothing else", x.hearth(0, 6), 2);
                law(x, "tax 9 if " + are[i] + " < " + parts[i]);
                due(parts[i] + " is not more", x.hearth(0, 6), 2);
            }
            law(x, "tax 9 if house+flue+warm+hearths+windows+quarter+7<29 and 27<7+quarter+windows+hearths+warm+flue+house");
            due("all together", x.hearth(0, 6), 11);
            wrongLaw("free if fire + 1 > 0", 13);
            wrongLaw("free if hearth > 0", 8);
            wrongLaw("free if window > 0", 8);
            wrongLaw("free if 1 + + 1 > 0", 12);
        });
        edge("0, if some free LINE holds, or it is walled up", () -> {
            HearthMoney x = of(houses(1) + ";" + hearths(0, 2), repeat("tax 99", 11) + ";free if flue < 1");
            due("the last LINE", x.hearth(0, 6), 0);
            law(x, "free if flue > 0;tax 5");
            due("one that does not hold", x.hearth(0, 6), 7);
            x.wall(0);
            due("walled up", x.hearth(0, 6), 0);
            due("the other one", x.hearth(1, 6), 7);
        });
        edge("(Without a text: 0, too, if its HOUSE has a PAPER.)", () -> {
            HearthMoney x = of("house 9 windows 0 paper;house 9 windows 0;" + hearths(0, 1) + ";" + hearths(1, 1));
            due("a PAPER", x.hearth(0, 6), 0);
            due("no PAPER", x.hearth(1, 6), 2);
            x.image();
            law(x, "");
            due("with a text", x.hearth(0, 6), 2);
            x.back();
            due("without a text again", x.hearth(0, 6), 0);
            due("LINES", x.count(3), NONE);
        });
        edge("the sum of N of all find LINES that hold, 100 at most; 30 without a text", () -> {
            HearthMoney x = of(houses(1) + ";" + hearths(0, 1));
            due("without a text", x.hearth(0, 7), 30);
            String[] laws = {"", "find 0", "find 99", "find 99;find 1", "find 99;find 2", repeat("find 99", 12), "find 7 if pot;find 3 if fire"};
            int[] want = {0, 0, 99, 100, 100, 100, 3};
            for (int i = 0; i < laws.length; i++) {
                law(x, laws[i]);
                due(laws[i], x.hearth(0, 7), want[i]);
            }
        });
        edge("SUM < SUM | SUM > SUM", () -> {
            HearthMoney x = of("house 9 windows 30;" + hearths(0, 1));
            String[] hold = {"1 < 2", "2 > 1", "999 + 999 < 999 + 999 + 1", "windows + windows > 59", "house < 1", "0 < hearths"};
            String[] fail = {"1 < 1", "1 > 1", "2 < 1", "1 > 2", "windows > 30", "windows < 30", "quarter > 0", "house > 0"};
            for (String c : hold) {
                law(x, "tax 5 if " + c);
                due(c, x.hearth(0, 6), 7);
            }
            for (String c : fail) {
                law(x, "tax 5 if " + c);
                due(c, x.hearth(0, 6), 2);
            }
            String sum = "1";
            while (sum.length() < 380) {
                sum = sum + "+1";
            }
            law(x, "tax 5 if " + sum + ">190");
            due("a SUM of 191", x.hearth(0, 6), 7);
            law(x, "tax 5 if " + sum + ">191");
            due("a SUM of 191", x.hearth(0, 6), 2);
        });
    }

    private static void things() {
        edge("Words are as long as a to z go on", () -> {
            right("house1windows1paper tells5;sees0 0");
            right("hearth fire of0flue0warm1wall1");
            wrong("house1windows1papertells5", 14);
            wrong("hou se 1 windows 1", 0);
            wrong("ratez 1", 0);
            wrong("zrate 1", 0);
            wrong("{rate 1", 0);
            wrong("`rate 1", 0);
            wrong("rate` 1", 4);
            wrong("rate{1", 4);
            wrong("rateA 1", 4);
            wrong("Rate 1", 0);
            wrong("rate/1", 4);
            wrong("rate:1", 4);
            wrong("rate 1/", 6);
            wrong("rate 1:", 6);
            rightLaw("tax1if1<2and(pot)or not(pot)", 1);
            wrongLaw("free ifpot", 5);
            wrongLaw("freeif pot", 0);
            wrongLaw("free if potor pot", 8);
            wrongLaw("free if pot orpot", 12);
            wrongLaw("free if notpot", 8);
        });
        edge("between all there may be blanks (32), also ahead and behind", () -> {
            right("   house   1   windows  1   paper   tells   1   ;  rate   1   ");
            rightLaw("  tax  1  if  not  (  1  +  2  <  3  )  or  pot  ;  free  ", 2);
            for (int other : new int[] {0, 9, 10, 13, 31, 33, 127, 160, 255}) {
                wrong((char) other + "rate 1", 0);
                wrong("rate" + (char) other + "1", 4);
                wrong("rate 1" + (char) other, 6);
                wrongLaw("free" + (char) other + "if pot", 4);
            }
            wrong("rate 1 2", 7);
        });
        edge("A text that is empty, or blanks alone, has no LINE.", () -> {
            for (String blanks : new String[] {"", " ", "                    ", " ".repeat(400)}) {
                right(blanks);
                rightLaw(blanks, 0);
            }
        });
        edge("( and not within one another at most 6 deep.", () -> {
            for (int kinds = 0; kinds < 1 << 7; kinds++) {
                String text = "free if ";
                String behind = "";
                for (int i = 0; i < 6; i++) {
                    text = text + ((kinds >> i & 1) == 1 ? "(" : "not ");
                    behind = behind + ((kinds >> i & 1) == 1 ? ")" : "");
                }
                rightLaw(text + "pot" + behind, 1);
                rightLaw(text + "pot" + behind + " and " + text.substring(8) + "pot" + behind, 1);
                boolean last = (kinds >> 6 & 1) == 1;
                wrongLaw(text + (last ? "(pot)" : "not pot") + behind, text.length());
            }
            rightLaw("free if " + repeat("(pot)", 9).replace(";", "or"), 1);
            rightLaw("free if " + repeat("not pot", 9).replace(";", " or "), 1);
        });
    }

    private static void wrongBytes() {
        edge("a number of more digits, or out of its bounds, or that tells none that can be", () -> {
            wrong("  fine  0001", 8);
            wrong("  fine  51", 8);
            wrong("sees 0  1", 8);
            wrong("hearth pot of  1 flue", 15);
            wrongLaw(" tax  0001", 6);
            wrongLaw(" tax  100", 6);
            wrongLaw("free if warm <  1000", 16);
        });
        edge("a word that is none", () -> {
            wrong("rate 1; rates 1", 8);
            wrong("hearth stove of 0", 7);
            wrong("hearth pot at 0", 11);
            wrong("hearth pot of 0 flu 1", 16);
            wrong("hearth pot of 0 flue 1 warmth 1", 23);
            wrong("hearth pot of 0 flue 1 warm 1 walls 1", 30);
            wrongLaw("free ;freed", 6);
            wrongLaw("free when pot", 5);
            wrongLaw("free if ovens", 8);
            wrongLaw("free if warm + pot < 3", 15);
            wrongLaw("free if pot but pot", 12);
        });
        edge("the ( or not that is a 7th one deep", () -> {
            wrongLaw("free if ( ( ( ( ( (  ( pot", 21);
            wrongLaw("free if not not not not not not  not", 33);
            wrongLaw("free if pot or (((((( pot and not", 30);
        });
        edge("of a LINE, a HOUSE, a HEARTH too many, the first word", () -> {
            wrong(repeat("bed 1", 14) + ";  nothing", 86);
            wrong(houses(5) + ";  house 1000", 92);
            wrongLaw(repeat("free", 12) + ";  nothing", 62);
            HearthMoney x = of(houses(2) + ";" + hearths(0, 6));
            parish(x, hearths(1, 6));
            due("a 13th HEARTH", parish(x, "bed 2; hearth stove"), ARGUMENT);
            due("its first word", x.fault(), 7);
            due("BED", x.count(8), 1);
        });
        edge("or the text's length, if more must come", () -> {
            String[] lines = {"house 1 windows 1", "sees 1 0", "hearth pot of 0 flue 1 warm 1 wall 1", "rate 1", "fine 1", "visit 1", "bed 1", "quarter 1"};
            for (String line : lines) {
                for (int at = line.indexOf(' '); at >= 0; at = line.indexOf(' ', at + 1)) {
                    wrong(line.substring(0, at), at);
                    wrong(line.substring(0, at) + "   ", at + 3);
                    wrong("bed 1;" + line.substring(0, at), at + 6);
                }
            }
            wrong("house 1 windows 1 tells", 23);
            wrong("bed 1;", 6);
            wrong("bed 1;  ", 8);
            String[] laws = {"tax", "find ", "free if", "free if not", "free if (", "free if (pot", "free if pot and", "free if pot or ",
                "free if 1", "free if 1 +", "free if 1 <", "free if 1 > 1 + ", "free;"};
            for (String text : laws) {
                wrongLaw(text, text.length());
            }
        });
        edge("Of a wrong text nothing stays.", () -> {
            HearthMoney x = of(houses(1) + ";" + hearths(0, 1), "tax 1");
            List<Integer> was = all(x);
            due("parish", parish(x, "house 1 windows 1 paper tells 9;sees 0 0;sees 1 1;" + hearths(0, 2) + ";" + hearths(1, 1)
                + ";rate 9;fine 9;visit 9;bed 9;quarter 9;bed"), ARGUMENT);
            due("law", law(x, "tax 9;free;find 9 if pot;tax"), ARGUMENT);
            due("all is as it was", all(x).equals(was), true);
            parish(x, "house 7 windows 7;" + hearths(1, 1));
            due("nothing of it in the next one: PAPER", x.house(1, 1), 0);
            due("TOWERS", x.house(1, 3), 0);
            due("TELLS", x.house(1, 4), 0);
            due("HEARTHS", x.count(1), 2);
            due("RATE", x.count(5), 2);
        });
    }

    // ---- A QUARTER.

    /** Whether a man comes by the first DRAW of a SEED: then there is no second one. */
    private static boolean comes(int visit, int seed) {
        HearthMoney x = of("house 9 windows 0;visit " + visit);
        x.seed(seed);
        x.quarters(1);
        int after = x.seed(1);
        due("draws from SEED " + seed, after == next(seed) || after == next(next(seed)), true);
        return after == next(seed);
    }

    private static void quarter() {
        edge("if DRAW modulo 100 is below VISIT", () -> {
            due("0 is not below 0", comes(0, drawing(0)), false);
            due("100 is 0", comes(1, drawing(100)), true);
            due("0 is below 1", comes(1, drawing(0)), true);
            due("1 is not below 1", comes(1, drawing(1)), false);
            due("99 is not below 99", comes(99, drawing(99)), false);
            due("98 is below 99", comes(99, drawing(198)), true);
            due("99 is below 100", comes(100, drawing(99)), true);
            due("32767 is 67", comes(68, drawing(32767)), true);
            due("67 is not below 67", comes(67, drawing(32767)), false);
        });
        edge("or (if not) DRAW modulo 100 is below its TELLS, a man comes", () -> {
            int[] tells = {0, 1, 1, 99, 99, 100, 1, 1, 68, 67};
            int[] draws = {0, 0, 1, 98, 99, 99, 100, 201, 32767, 32767};
            for (int i = 0; i < tells.length; i++) {
                HearthMoney x = of("house 9 windows 0 tells " + tells[i] + ";visit 0;" + hearths(0, 1), "find 99;find 1");
                x.hide(0);
                x.seed(before(drawing(draws[i])));
                x.quarters(1);
                due(draws[i] + " below TELLS " + tells[i], x.hidden() == 0, draws[i] % 100 < tells[i]);
            }
        });
        edge("(The first DRAW is made always, the second one just then.)", () -> {
            HearthMoney always = of(houses(2) + ";visit 100");
            always.quarters(1);
            due("one for each HOUSE", always.seed(1), next(next(1)));
            HearthMoney never = of(houses(2) + ";visit 0");
            never.quarters(1);
            due("two for each HOUSE", never.seed(1), next(next(next(next(1)))));
            HearthMoney broke = of("house 0 windows 0;visit 0");
            broke.quarters(1);
            due("without money and HEARTHS, too", broke.seed(1), next(next(1)));
        });
        edge("each of its HEARTHS that is hidden, by numbers, is found, if DRAW modulo 100 is below what it is FOUND by", () -> {
            int[] find = {0, 1, 1, 99, 99, 1, 67, 68};
            int[] draws = {0, 0, 1, 98, 99, 100, 32767, 32767};
            for (int i = 0; i < find.length; i++) {
                HearthMoney x = of(houses(1) + ";visit 100;" + hearths(0, 1), "find " + find[i]);
                x.hide(0);
                x.seed(before(drawing(draws[i])));
                x.quarters(1);
                due(draws[i] + " below " + find[i], x.hidden() == 0, draws[i] % 100 < find[i]);
                due("two draws", x.seed(1), draws[i] << 16);
            }
            HearthMoney none = of(houses(1) + ";visit 100;" + hearths(0, 3), "find 0");
            none.hide(1);
            none.wall(2);
            none.quarters(1);
            due("a draw for the hidden one alone", none.seed(1), next(next(1)));
            HearthMoney x = of(houses(2) + ";visit 100;hearth fire of 1 flue 0 warm 1 wall 1;hearth pot of 0 flue 0 warm 1 wall 1;"
                + "hearth fire of 1 flue 0 warm 1 wall 1", "find 99;find 1");
            for (int i = 0; i < 3; i++) {
                x.hide(i);
            }
            x.quarters(1);
            due("HOUSE 0 first", x.log(2, 1), 1);
            due("by numbers", x.log(1, 1), 0);
            due("by numbers", x.log(0, 1), 2);
            due("five draws", x.seed(1), next(next(next(next(next(1))))));
        });
        edge("it is open then, and FINE is due", () -> {
            for (int fine : new int[] {0, 50}) {
                HearthMoney x = of("house 999 windows 0;visit 100;bed 0;fine " + fine + ";" + hearths(0, 3), "find 99;find 1");
                x.hide(0);
                x.hide(2);
                due("TAX of three, FINE of two", x.quarters(1), 6 + 2 * fine);
                due("open", x.count(10), 7);
                due("no FINE any more", x.quarters(1), 6);
            }
        });
        edge("or all of its PURSE, if that is less", () -> {
            int[] purses = {0, 11, 12, 13};
            for (int purse : purses) {
                HearthMoney x = of("house " + purse + " windows 0;visit 100;bed 0;fine 8;" + hearths(0, 2), "find 99;find 1");
                x.hide(0);
                int paid = Math.min(purse, 12);
                due("paid of PURSE " + purse, x.quarters(1), paid);
                due("PURSE", x.house(0, 0), purse - paid);
                due("TAKEN", x.count(9), paid);
                due("nothing stays owed", x.quarters(1), Math.min(purse - paid, 4));
            }
        });
        edge("TAKEN is as much more (9999 at most)", () -> {
            HearthMoney x = rich();
            due("eight quarters", x.quarters(8), 9664);
            due("TAKEN", x.count(9), 9664);
            x.give(0, 999);
            due("all that is paid", x.quarters(1), 1208);
            due("TAKEN at most", x.count(9), 9999);
            due("of several in one call", x.quarters(2), 126);
            due("TAKEN at most", x.count(9), 9999);
            due("trial", x.trial(5, false), 9999);
            due("first", x.first(9999), 0);
        });
        edge("QUARTER is 1 more (9999 at most)", () -> {
            HearthMoney x = of("house 9 windows 0;quarter 999;visit 100;" + hearths(0, 1), "find 99;find 1;tax 1 if quarter > 999+999+999+999+999+999+999+999+999+999+8");
            for (int i = 1; i <= 150; i++) {
                x.quarters(60);
                due("QUARTER", x.count(4), 999 + 60 * i);
            }
            x.quarters(1);
            due("QUARTER at most", x.count(4), 9999);
            due("in THE LAW", x.hearth(0, 6), 3);
            x.give(0, 99);
            x.hide(0);
            x.quarters(60);
            due("in THE LOG", x.log(0, 0), 9999);
            due("LED", x.led(0, true), 9999);
            due("QUARTER at most", x.count(4), 9999);
        });
        edge("AHEAD by N QUARTERS (0 to 100): as so many QUARTERS in which no man comes (no DRAWS)", () -> {
            HearthMoney x = of("house 999 windows 0 tells 100;visit 100;" + hearths(0, 2), "find 99;find 1");
            x.hide(0);
            List<Integer> was = all(x);
            due("0", x.ahead(0, 0), 998);
            due("1", x.ahead(0, 1), 996);
            due("100", x.ahead(0, 100), 798);
            due("101", ask(() -> x.ahead(0, 101)), ARGUMENT);
            due("-1", ask(() -> x.ahead(0, -1)), ARGUMENT);
            due("nothing stays, no DRAWS", all(x).equals(was), true);
        });
        edge("as an int that goes round; bits 16 to 30 (SEED 1 at first)", () -> {
            due("at first", new HearthMoney().seed(7), 1);
            for (int seed : new int[] {0, 1, -1, MAX, MIN, 1 << 16, -(1 << 16)}) {
                HearthMoney x = of(houses(1) + ";visit 100");
                x.seed(seed);
                x.quarters(1);
                due("SEED behind " + seed, x.seed(1), next(seed));
            }
            due("bit 31 is none of it", comes(1, before(MIN)), true);
            due("bits 0 to 15 are none of it", comes(1, before(0xffff)), true);
            due("all bits are 32767", comes(67, before(-1)), false);
            due("all bits are 32767", comes(68, before(-1)), true);
            due("bit 30 is 16384", comes(84, before(1 << 30)), false);
            due("bit 30 is 16384", comes(85, before(1 << 30)), true);
        });
    }

    private static HearthMoney rich() {
        HearthMoney x = of("house 999 windows 0;rate 20;visit 0;" + hearths(0, 1), repeat("tax 99", 12));
        for (int i = 0; i < 10; i++) {
            x.give(0, 999);
        }
        return x;
    }

    private static HearthMoney twelveHidden() {
        HearthMoney x = of("house 999 windows 0;house 999 windows 0;visit 100;bed 0;" + hearths(0, 6), "find 99;find 1");
        parish(x, hearths(1, 6));
        hideAll(x);
        return x;
    }

    private static void hideAll(HearthMoney x) {
        for (int i = 0; i < x.count(1); i++) {
            x.hide(i);
        }
    }

    private static void hideAllOpen(HearthMoney x) {
        for (int i = 0; i < x.count(1); i++) {
            if (x.hearth(i, 5) == 0) {
                x.hide(i);
            }
        }
    }

    private static void acts() {
        edge("a HEARTH that is not walled up is walled up (PURSE is WALL less)", () -> {
            HearthMoney x = of("house 8 windows 0;bed 2;hearth fire of 0 flue 0 warm 1 wall 3;hearth fire of 0 flue 0 warm 1 wall 3");
            due("an open one", x.wall(0), 5);
            x.hide(1);
            due("a hidden one", x.wall(1), 0);
            due("one that is", ask(() -> x.wall(1)), STATE);
        });
        edge("an open one is hidden (PURSE is BED less)", () -> {
            HearthMoney x = of("house 20 windows 0;bed 20;" + hearths(0, 1));
            due("BED 20 of PURSE 20", x.hide(0), 0);
            HearthMoney y = of("house 0 windows 0;bed 0;" + hearths(0, 1));
            due("BED 0 of PURSE 0", y.hide(0), 0);
            HearthMoney z = of("house 19 windows 0;bed 20;" + hearths(0, 1));
            due("BED 20 of PURSE 19", ask(() -> z.hide(0)), STATE);
        });
        edge("a HOUSE gets so much (9999 at most)", () -> {
            HearthMoney x = of("house 999 windows 0");
            for (int i = 0; i < 9; i++) {
                x.give(0, 999);
            }
            due("9998", x.give(0, 8), 9998);
            due("9999", x.give(0, 1), 9999);
            due("beyond", x.give(0, 999), 9999);
            due("an ACT, too", x.count(14), 12);
        });
        edge("the latest 60 times that a hidden HEARTH was found: QUARTER, the HEARTH, its HOUSE, its TAX then", () -> {
            HearthMoney x = twelveHidden();
            for (int rows = 12; rows <= 60; rows += 12) {
                x.quarters(1);
                due("rows", x.count(13), rows);
                hideAll(x);
            }
            due("the first of 60", x.log(59, 0), 0);
            due("its HEARTH", x.log(59, 1), 0);
            due("none", x.log(60, 0), NONE);
            for (int i = 1; i < 12; i++) {
                x.open(i);
            }
            x.quarters(1);
            due("a 61st", x.count(13), 60);
            due("the latest", x.log(0, 0), 5);
            due("the first of 60", x.log(59, 1), 1);
            due("its QUARTER", x.log(59, 0), 0);
            due("LED by HOUSE 0", x.led(0, false), 30);
            due("LED by HOUSE 1", x.led(1, false), 30);
        });
        edge("THE LOG: the latest 60 times", () -> {
            HearthMoney x = twelveHidden();
            x.quarters(1);
            x.hide(3);
            x.rate(7);
            x.image();
            x.quarters(1);
            due("a row more", x.log(0, 3), 7);
            x.undo();
            due("undone: rows", x.count(13), 12);
            for (int what = 0; what < 4; what++) {
                due("undone", x.log(0, what), new int[] {0, 11, 1, 2}[what]);
                due("undone", x.log(11, what), new int[] {0, 0, 0, 2}[what]);
            }
            for (int i = 0; i < 6; i++) {
                hideAllOpen(x);
                x.give(0, 999);
                x.give(1, 999);
                x.quarters(1);
            }
            due("60", x.log(59, 0), 2);
            x.back();
            due("gone back: rows", x.count(13), 12);
            for (int what = 0; what < 4; what++) {
                due("gone back", x.log(0, what), new int[] {0, 11, 1, 2}[what]);
                due("gone back", x.log(11, what), new int[] {0, 0, 0, 2}[what]);
            }
            x.quarters(1);
            due("goes on behind it", x.log(0, 1), 3);
            due("and keeps the others", x.log(1, 1), 11);
        });
    }

    // ---- What is asked.

    private static void rows() {
        edge("PAYS of a HOUSE: TAX of its open HEARTHS, together.", () -> {
            due("none", fact(houses(1), 0, 5), 0);
            HearthMoney x = of(houses(1) + ";rate 20;" + hearths(0, 6), repeat("tax 99", 12));
            due("the most", x.house(0, 5), 6 * 1208);
            x.hide(0);
            x.wall(1);
            due("hidden and walled up ones pay nothing", x.house(0, 5), 4 * 1208);
        });
        edge("all these by 100, rounded down", () -> {
            int[] find = {99, 50, 33, 34, 0};
            int[] one = {0, 0, 0, 0, 0};
            int[] two = {1, 1, 0, 0, 0};
            int[] three = {2, 1, 0, 1, 0};
            for (int i = 0; i < find.length; i++) {
                HearthMoney x = of(houses(1) + ";bed 0;rate 1;fine 0;" + hearths(0, 3), "find " + find[i]);
                due("none hidden", x.house(0, 6), 0);
                x.hide(0);
                due(find[i] + " once", x.house(0, 6), one[i]);
                x.hide(1);
                due(find[i] + " twice", x.house(0, 6), two[i]);
                x.hide(2);
                due(find[i] + " three times", x.house(0, 6), three[i]);
            }
            HearthMoney x = of("house 9 windows 0;rate 20;fine 50;" + hearths(0, 6), repeat("tax 99", 10) + ";find 99;find 9");
            hideAll(x);
            due("the most", x.house(0, 6), 6 * (20 + 990 + 50));
        });
        edge("WARMTH: WARM of its HEARTHS that are not walled up, together.", () -> {
            HearthMoney x = of(houses(2) + ";" + repeat("hearth pot of 0 flue 1 warm 9 wall 1", 6));
            due("the most", x.house(0, 7), 54);
            due("none", x.house(1, 7), 0);
            x.hide(0);
            x.wall(1);
            due("hidden ones warm", x.house(0, 7), 45);
        });
        edge("SMOKE of a HOUSE: its FLUES that some HEARTH not walled up has, as bits.", () -> {
            HearthMoney x = of(houses(2) + ";hearth pot of 0 flue 0 warm 9 wall 1;hearth pot of 0 flue 9 warm 9 wall 1;hearth pot of 0 flue 9 warm 9 wall 1");
            due("the first and the last", x.house(0, 8), 513);
            due("none", x.house(1, 8), 0);
            x.wall(1);
            due("by the other one", x.house(0, 8), 513);
            x.hide(2);
            due("by a hidden one", x.house(0, 8), 513);
            x.wall(2);
            due("by none", x.house(0, 8), 1);
        });
        edge("SMOKING FLUES of all HOUSES that are seen from it: how many", () -> {
            HearthMoney x = of(houses(2) + ";sees 0 0;sees 4 0;sees 4 1;hearth pot of 0 flue 0 warm 9 wall 1;hearth pot of 0 flue 9 warm 9 wall 1;"
                + "hearth pot of 1 flue 0 warm 9 wall 1;hearth pot of 1 flue 0 warm 9 wall 1");
            due("TOWER 0", x.stacks(0), 2);
            due("TOWER 4", x.stacks(4), 3);
            due("of none", x.stacks(2), 0);
        });
        edge("the fewest TOWERS from which all HOUSES are seen that smoke: of several sets the least as bits; none", () -> {
            String smoking = houses(3) + ";" + hearths(0, 1) + ";" + hearths(1, 1) + ";" + hearths(2, 1);
            due("no TOWER", of(smoking).towers(), NONE);
            due("two of three seen", of(smoking + ";sees 0 0;sees 0 1").towers(), NONE);
            due("the last TOWER alone", of(smoking + ";sees 4 0;sees 4 1;sees 4 2;sees 0 0;sees 1 1;sees 2 2").towers(), 16);
            due("three", of(smoking + ";sees 4 0;sees 3 1;sees 2 2").towers(), 28);
            due("of several the least", of(smoking + ";sees 1 0;sees 1 1;sees 2 1;sees 2 2;sees 0 0;sees 0 2").towers(), 3);
            due("nothing smokes", of(houses(6)).towers(), 0);
        });
        edge("SHARE of a HOUSE: PAYS in hundredths of PAYS of all, rounded down (0 without)", () -> {
            String three = houses(3) + ";" + hearths(0, 1) + ";" + hearths(1, 1) + ";" + hearths(2, 1);
            due("a third", fact(three, 0, 9), 33);
            due("two thirds", fact(three.replace("of 0", "of 1"), 1, 9), 66);
            due("all", fact(houses(1) + ";" + hearths(0, 1), 0, 9), 100);
            due("nothing", fact(houses(2) + ";" + hearths(0, 1), 1, 9), 0);
            due("without", fact(three + ";rate 0", 0, 9), 0);
        });
    }

    private static void plans() {
        edge("twice WARMTH then, less PAYS then, less all their WALLS is the most (PURSE not looked at): of several the least as bits", () -> {
            HearthMoney none = of(houses(1));
            due("no HEARTH", none.plan(0, false), 0);
            due("no HEARTH", none.plan(0, true), 0);
            // Each one left is worth 2 - RATE, each one walled up -1.
            HearthMoney x = of("house 0 windows 0;rate 3;" + hearths(0, 6));
            due("as much: none", x.plan(0, false), 0);
            due("how much", x.plan(0, true), -6);
            x.rate(4);
            due("all, without money", x.plan(0, false), 63);
            due("how much", x.plan(0, true), -6);
            HearthMoney y = of("house 9 windows 0;rate 9;" + hearths(0, 3), "free if hearths < 3");
            due("any one of three", y.plan(0, false), 1);
            y.hide(0);
            due("an open one", y.plan(0, false), 2);
            due("how much", y.plan(0, true), 3);
            y.wall(0);
            due("not walled up again", y.plan(0, false), 0);
        });
        edge("YIELD of a RATE (0 to 20)", () -> {
            HearthMoney x = of(houses(1) + ";rate 7;hearth pot of 0 flue 0 warm 9 wall 30");
            due("0", x.brings(0), 0);
            due("20", x.brings(20), 20);
            due("21", ask(() -> x.brings(21)), ARGUMENT);
            due("-1", ask(() -> x.brings(-1)), ARGUMENT);
            due("RATE stays", x.count(5), 7);
            HearthMoney y = of(houses(1) + ";hearth pot of 0 flue 0 warm 9 wall 30;" + hearths(0, 1), "tax 5;tax 30 if hearths > 1");
            due("by THE LAW and what is left then", y.brings(4), 9);
            law(y, "tax 5;tax 30 if hearths < 2");
            due("by THE LAW and what is left then", y.brings(4), 18);
        });
        edge("DEAR: the RATE of the greatest YIELD (of several the least)", () -> {
            due("without HOUSES", new HearthMoney().dear(), 0);
            due("the last RATE", of(houses(1) + ";hearth pot of 0 flue 0 warm 9 wall 30").dear(), 20);
            // A HEARTH stays open as long as RATE is twice its WARM and its WALL at most: up to 3, and up to 7 or 6.
            due("3 brings 6, 7 brings 7", of(houses(1) + ";hearth pot of 0 flue 0 warm 1 wall 1;hearth pot of 0 flue 0 warm 3 wall 1").dear(), 7);
            due("3 brings 6, 6 brings 6", of(houses(1) + ";hearth pot of 0 flue 0 warm 1 wall 1;hearth pot of 0 flue 0 warm 2 wall 2").dear(), 3);
            due("all free", of(houses(1) + ";" + hearths(0, 1), "free").dear(), 0);
        });
        edge("ROUND of N visits (0 to 6)", () -> {
            HearthMoney x = of(houses(6) + ";fine 50;" + hearths(0, 1) + ";" + hearths(1, 1) + ";" + hearths(2, 1) + ";" + hearths(3, 1));
            parish(x, hearths(4, 1) + ";" + hearths(5, 1));
            hideAll(x);
            for (int n = 0; n <= 6; n++) {
                due("round(" + n + ")", x.round(n), (1 << n) - 1);
            }
            due("round(7)", ask(() -> x.round(7)), ARGUMENT);
            due("round(-1)", ask(() -> x.round(-1)), ARGUMENT);
        });
        edge("by which HOPES together are the most: of several sets the fewest, then the least as bits", () -> {
            HearthMoney x = of(houses(3) + ";fine 50;" + hearths(0, 1) + ";" + hearths(1, 1) + ";" + hearths(2, 1));
            due("no HOPES", x.round(3), 0);
            x.hide(1);
            due("one HOUSE of three", x.round(3), 2);
            x.hide(2);
            due("the least of two", x.round(1), 2);
            law(x, "find 1;tax 50 if house > 1");
            due("HOPES below 1 are none", x.round(3), 4);
        });
        edge("the fewest of its open HEARTHS to be walled up so that PAYS is X at most: of several sets the least as bits", () -> {
            HearthMoney x = of(houses(2) + ";rate 3;" + hearths(0, 3));
            due("no HEARTH", x.least(1, 0), 0);
            due("X 999", x.least(0, 999), 0);
            due("just X", x.least(0, 9), 0);
            due("one less", x.least(0, 8), 1);
            due("one by 6", x.least(0, 6), 1);
            due("two by 5", x.least(0, 5), 3);
            due("all", x.least(0, 2), 7);
            due("X 0", x.least(0, 0), 7);
            due("X 1000", ask(() -> x.least(0, 1000)), ARGUMENT);
            due("X -1", ask(() -> x.least(0, -1)), ARGUMENT);
            HearthMoney dear = of(houses(1) + ";rate 20;" + hearths(0, 2), repeat("tax 99", 12));
            due("PAYS above 999", dear.least(0, 999), 3);
        });
        edge("WARMER of a HOUSE: its walled up HEARTH by whose opening twice WARMTH less PAYS grows the most (of several the least; none, if by none)", () -> {
            HearthMoney x = of("house 99 windows 0;rate 1;" + hearths(0, 3));
            due("none walled up", x.warmer(0), NONE);
            x.wall(1);
            x.wall(2);
            due("by 1", x.warmer(0), 1);
            x.rate(2);
            due("by 0", x.warmer(0), NONE);
            x.rate(3);
            due("by less", x.warmer(0), NONE);
            law(x, "free if hearths > 1");
            due("all free with two", x.warmer(0), 1);
            x.open(1);
            x.open(2);
            x.wall(0);
            due("the first one", x.warmer(0), 0);
            law(x, "tax 9 if hearths < 3");
            due("cheaper with three", x.warmer(0), 0);
            law(x, "tax 9 if hearths > 2");
            due("dearer with three", x.warmer(0), NONE);
            x.rate(1);
            law(x, "tax 9 if hearths > 3");
            due("nothing by four", x.warmer(0), 0);
        });
    }

    private static void smoke() {
        edge("sets of its HEARTHS (walled up ones, too) that fit, if just these burnt", () -> {
            HearthMoney x = of("house 9 windows 0;house 9 windows 0;" + hearths(0, 6));
            x.wall(0);
            x.hide(1);
            due("none told", smokes(x, 0, false), 64);
            due("it smoked", smokes(x, 0, false, 0, 1), 63);
            due("it did not", smokes(x, 0, false, 0, 0), 1);
            due("no HEARTH", smokes(x, 1, false), 1);
            due("no HEARTH, a FLUE that did not", smokes(x, 1, false, 9, 0), 1);
            due("no HEARTH, a FLUE that did", smokes(x, 1, false, 9, 1), 0);
        });
        edge("FEWEST: how many burnt at least; none", () -> {
            HearthMoney x = of("house 9 windows 0;house 9 windows 0;hearth pot of 0 flue 0 warm 1 wall 1;hearth pot of 0 flue 4 warm 1 wall 1;hearth pot of 0 flue 9 warm 1 wall 1");
            due("none told", smokes(x, 0, true), 0);
            due("not smoked", smokes(x, 0, true, 0, 0, 4, 0, 9, 0), 0);
            due("one", smokes(x, 0, true, 9, 1), 1);
            due("all", smokes(x, 0, true, 0, 1, 4, 1, 9, 1), 3);
            due("none", smokes(x, 0, true, 1, 1), NONE);
            due("none", smokes(x, 1, true, 0, 1), NONE);
        });
        edge("so that the greater part is the least (of several the least; none with fewer than two)", () -> {
            HearthMoney x = of("house 9 windows 0;house 9 windows 0;house 9 windows 0;" + hearths(0, 1) + ";" + hearths(1, 3)
                + ";hearth pot of 1 flue 9 warm 1 wall 1");
            due("no HEARTH: one set", look(x, 2), NONE);
            due("two sets, a HEARTH of another HOUSE ahead", look(of(houses(2) + ";" + hearths(0, 1) + ";" + hearths(1, 1)), 1), 1);
            due("one HEARTH: two sets", look(x, 0), 0);
            due("one set", look(x, 0, 0, 1), NONE);
            due("no set", look(x, 0, 1, 1), NONE);
            due("of several the least", look(x, 1), 1);
            due("8 of 14, or 7", look(x, 1, 0, 1), 4);
            due("4 of 7 each", look(x, 1, 0, 1, 9, 0), 1);
        });
        edge("(of each two bytes: FLUE, 1 or 0; at most 40 bytes)", () -> {
            HearthMoney x = of(houses(1) + ";" + hearths(0, 1));
            int[] forty = new int[40];
            int[] more = new int[42];
            due("40 bytes", smokes(x, 0, false, forty), 1);
            due("42 bytes", smokes(x, 0, false, more), ARGUMENT);
            due("39 bytes", smokes(x, 0, false, Arrays.copyOf(forty, 39)), ARGUMENT);
            due("400 bytes", smokes(x, 0, false, new int[400]), ARGUMENT);
            due("one byte", smokes(x, 0, false, 0), ARGUMENT);
            for (int flue : new int[] {10, 48, 127, 128, 255}) {
                due("FLUE " + flue, smokes(x, 0, false, flue, 1), ARGUMENT);
                due("FLUE " + flue, look(x, 0, 0, 1, flue, 0), ARGUMENT);
            }
            for (int sign : new int[] {2, 48, 49, 127, 128, 255}) {
                due("neither 1 nor 0: " + sign, smokes(x, 0, false, 0, sign), ARGUMENT);
                due("neither 1 nor 0: " + sign, look(x, 0, 9, sign), ARGUMENT);
            }
            due("FLUE 9", smokes(x, 0, false, 9, 0), 2);
        });
        edge("IllegalArgumentException: the TAPE is not that (none may be told).", () -> {
            HearthMoney x = of(houses(1) + ";" + hearths(0, 1));
            due("none told", smokes(x, 0, false), 2);
            x.feed(0, 0, 0, 0, 0);
            due("20 bytes of 0", ask(() -> x.smokes(0, false)), 1);
            due("used up", x.end(1), false);
            due("wrong", smokes(x, 0, true, 0, 1, 0), ARGUMENT);
            due("used up", x.end(1), false);
            due("no HOUSE", smokes(x, 1, true, 0, 1, 0), BOUNDS);
            due("used up", x.end(1), false);
        });
        edge("LOOK (the TAPE likewise); NONE. IllegalArgumentException: the TAPE is not that.", () -> {
            HearthMoney x = of(houses(1) + ";" + hearths(0, 1));
            due("40 bytes", look(x, 0, new int[40]), NONE);
            due("42 bytes", look(x, 0, new int[42]), ARGUMENT);
            due("used up", x.end(1), false);
            due("one byte", look(x, 0, 0), ARGUMENT);
            due("no HOUSE", look(x, -1, 0), BOUNDS);
            due("used up", x.end(1), false);
            due("none told", look(x, 0), 0);
        });
    }

    private static void choices() {
        edge("WINDOW of a HOUSE: by how much it would pay more than PAYS (below 0: less), if each of its WINDOWS above 6 cost 1 in place of TAX.", () -> {
            int[] windows = {0, 6, 7, 30};
            int[] want = {0, 0, 1, 24};
            for (int i = 0; i < windows.length; i++) {
                due("window", of("house 9 windows " + windows[i]).window(0), want[i]);
                due("window", of("house 9 windows " + windows[i] + ";" + hearths(0, 1)).window(0), want[i] - 2);
            }
        });
        edge("in ten thousandths (rounded down) that a man comes in a QUARTER: by VISIT, else by TELLS", () -> {
            int[][] rows = {{0, 0, 0}, {0, 1, 100}, {1, 0, 100}, {1, 1, 199}, {99, 99, 9999}, {100, 0, 10000}, {0, 100, 10000}, {100, 100, 10000}, {50, 50, 7500}};
            for (int[] row : rows) {
                due("VISIT " + row[0] + ", TELLS " + row[1], of("house 9 windows 0 tells " + row[1] + ";visit " + row[0]).odds(0), row[2]);
            }
        });
        edge("ALIKE: pairs of HOUSES of like WARMTH and PAYS: how many.", () -> {
            due("without HOUSES", new HearthMoney().alike(), 0);
            due("one", of(houses(1)).alike(), 0);
            due("six", of(houses(6)).alike(), 15);
            HearthMoney x = of(houses(2) + ";" + hearths(0, 1) + ";" + hearths(1, 1));
            due("a pair", x.alike(), 1);
            x.hide(0);
            due("of like WARMTH alone", x.alike(), 0);
            HearthMoney y = of(houses(2) + ";rate 0;" + hearths(0, 1));
            due("of like PAYS alone", y.alike(), 0);
        });
        edge("COLDEST: the HOUSE of the least WARMTH (of several the least; none)", () -> {
            due("none", new HearthMoney().coldest(), NONE);
            due("of several the least", of(houses(6)).coldest(), 0);
            due("the last one", of(houses(2) + ";" + hearths(0, 1)).coldest(), 1);
        });
        edge("BROKE of a HOUSE: the first N (0 to 100) AHEAD by which its PURSE is 0; none", () -> {
            int[] purses = {0, 1, 2, 3, 199, 200, 201, 999};
            int[] want = {0, 1, 1, 2, 100, 100, NONE, NONE};
            for (int i = 0; i < purses.length; i++) {
                due("PURSE " + purses[i], of("house " + purses[i] + " windows 0;visit 100;" + hearths(0, 1)).broke(0), want[i]);
            }
            due("nothing to pay", of(houses(1)).broke(0), NONE);
            HearthMoney hidden = of("house 9 windows 0;visit 100;" + hearths(0, 1), "find 99;find 1");
            hidden.hide(0);
            due("no man comes", hidden.broke(0), NONE);
        });
        edge("a LOSS is a tenth of what it is FOUND by (rounded down) times TAX and FINE together, by 10 (rounded down)", () -> {
            // BED 1, TAX 2: hidden it costs 1 and, looked for, the LOSS, open 2; the man has LOSS less 1, or nothing.
            // By LOSS 0 he does not look (2), by 1 it is all the same to him (3), by 2 no choice holds (0).
            game("find 9", 50, 2);
            game("find 10", 7, 2);
            game("find 10", 8, 3);
            game("find 19", 17, 3);
            game("find 19", 18, 0);
            game("find 20", 2, 2);
            game("find 20", 3, 3);
            game("find 99;find 1", 0, 0);
            game("find 99", 0, 3);
        });
        edge("choices (2 times that of the HOUSE and that of the man) from which the HOUSE would not pay less, the man not have more by the other one of its own: as bits; none, if it is walled up", () -> {
            HearthMoney x = of("house 9 windows 0;rate 0;fine 0;bed 0;" + hearths(0, 1));
            due("all for nothing: not looked for", x.game(0), 10);
            x.hide(0);
            due("of a hidden one", x.game(0), 10);
            x.wall(0);
            due("walled up", x.game(0), NONE);
            HearthMoney y = of("house 9 windows 0;rate 20;fine 50;bed 0;" + hearths(0, 1), "find 20");
            // LOSS 2 * 70 / 10 = 14: hidden 14, open 20; the man 13 or nothing.
            due("hidden, looked for", y.game(0), 1);
            HearthMoney z = of("house 9 windows 0;rate 1;fine 50;bed 20;" + hearths(0, 1), "find 99");
            due("open, not looked for", z.game(0), 8);
        });
        edge("CROWD of a HOUSE: the FLUE that the most of its HEARTHS have (of several the least; none)", () -> {
            due("none", of(houses(1)).crowd(0), NONE);
            due("FLUE 9", of(houses(1) + ";hearth pot of 0 flue 9 warm 1 wall 1").crowd(0), 9);
            HearthMoney x = of(houses(1) + ";hearth pot of 0 flue 9 warm 1 wall 1;hearth pot of 0 flue 0 warm 1 wall 1");
            due("of several the least", x.crowd(0), 0);
            x.flue(1, 9);
            x.wall(0);
            x.wall(1);
            due("walled up ones, too", x.crowd(0), 9);
        });
        edge("FIRST: the first N (0 to 100) AHEAD by which TAKEN is so much (1 to 9999) at least; none", () -> {
            HearthMoney x = of("house 999 windows 0;visit 100;" + hearths(0, 1));
            due("1", x.first(1), 1);
            due("2", x.first(2), 1);
            due("3", x.first(3), 2);
            due("200", x.first(200), 100);
            due("201", x.first(201), NONE);
            due("9999", x.first(9999), NONE);
            due("0", ask(() -> x.first(0)), ARGUMENT);
            due("10000", ask(() -> x.first(10000)), ARGUMENT);
            x.quarters(1);
            due("TAKEN by now", x.first(2), 0);
            due("one more", x.first(3), 1);
            HearthMoney rich = rich();
            due("9664 by 8", rich.first(9664), 8);
            due("9999 by all of the PURSE", rich.first(9999), 9);
            due("nothing to be had", new HearthMoney().first(1), NONE);
            x.hide(0);
            law(x, "find 99;find 1");
            due("no man comes", x.first(3), NONE);
        });
        edge("FREE: HEARTHS, not walled up, whose TAX is 0, as bits.", () -> {
            HearthMoney x = of("house 9 windows 0;house 9 windows 0 paper;" + hearths(0, 1) + ";" + hearths(1, 1));
            due("by PAPER", x.free(), 2);
            x.rate(0);
            due("by RATE", x.free(), 3);
            x.wall(1);
            due("not walled up", x.free(), 1);
            law(x, "tax 1");
            due("none", x.free(), 0);
        });
        edge("HIDDEN: HEARTHS that are hidden, as bits.", () -> {
            due("none", new HearthMoney().hidden(), 0);
            due("all", twelveHidden().hidden(), 4095);
        });
        edge("(WALL by TAX compared exactly; TAX above 0; of several the least; none)", () -> {
            due("none", new HearthMoney().cheapest(), NONE);
            HearthMoney x = of("house 99 windows 0;rate 0;hearth fire of 0 flue 0 warm 1 wall 7;hearth oven of 0 flue 0 warm 1 wall 10;hearth pot of 0 flue 0 warm 1 wall 1");
            due("TAX 0 alone", x.cheapest(), NONE);
            law(x, "tax 2 if fire;tax 3 if oven");
            due("10 by 3 is less than 7 by 2", x.cheapest(), 1);
            law(x, "tax 7 if fire;tax 10 if oven;tax 1 if pot");
            due("of several the least", x.cheapest(), 0);
            x.wall(0);
            due("not walled up", x.cheapest(), 1);
            x.hide(1);
            due("hidden ones, too", x.cheapest(), 1);
            law(x, "tax 1 if pot");
            due("TAX 1", x.cheapest(), 2);
            law(x, "free");
            due("all free", x.cheapest(), NONE);
        });
    }

    private static void game(String law, int fine, int want) {
        HearthMoney x = of("house 9 windows 0;fine " + fine + ";" + hearths(0, 1), law);
        due(law + ", FINE " + fine, x.game(0), want);
    }

    private static void ahead() {
        edge("TRIAL of N QUARTERS (0 to 100) from now (draws, too; nothing stays): TAKEN then; HEARTHS hidden then, as bits.", () -> {
            HearthMoney x = of("house 999 windows 0;visit 100;" + hearths(0, 2), "find 99;find 1");
            x.hide(0);
            List<Integer> was = all(x);
            due("0", x.trial(0, false), 0);
            due("0", x.trial(0, true), 1);
            due("1", x.trial(1, false), 9);
            due("1", x.trial(1, true), 0);
            due("100", x.trial(100, false), 405);
            due("101", ask(() -> x.trial(101, false)), ARGUMENT);
            due("-1", ask(() -> x.trial(-1, true)), ARGUMENT);
            due("nothing stays", all(x).equals(was), true);
            x.quarters(1);
            due("TAKEN by now", x.trial(0, false), 9);
        });
        edge("SPAN: the least and the greatest TAKEN so from SEED 1, 2, .. 6.", () -> {
            HearthMoney x = of("house 999 windows 0;visit 50;fine 50;" + hearths(0, 6), "find 50");
            hideAll(x);
            int least = MAX;
            int most = MIN;
            for (int seed = 1; seed <= 6; seed++) {
                x.seed(seed);
                least = Math.min(least, x.trial(2, false));
                most = Math.max(most, x.trial(2, false));
            }
            x.seed(-5);
            List<Integer> was = all(x);
            due("they differ", least < most, true);
            spanned();
            due("the least", x.span(2, false), least);
            due("the greatest", x.span(2, true), most);
            due("0", x.span(0, false), 0);
            due("0", x.span(0, true), 0);
            due("100", x.span(100, true) >= x.span(100, false), true);
            due("101", ask(() -> x.span(101, false)), ARGUMENT);
            due("-1", ask(() -> x.span(-1, true)), ARGUMENT);
            due("nothing stays", all(x).equals(was), true);
        });
        edge("LED: how many rows of THE LOG are of a HOUSE; the QUARTER of the latest (none).", () -> {
            HearthMoney x = of(houses(2) + ";visit 100;quarter 7;" + hearths(0, 1), "find 99;find 1");
            due("none", x.led(0, false), 0);
            due("none", x.led(0, true), NONE);
            x.hide(0);
            x.quarters(1);
            due("one", x.led(0, false), 1);
            due("its QUARTER", x.led(0, true), 7);
            due("of another HOUSE", x.led(1, true), NONE);
            HearthMoney y = twelveHidden();
            y.quarters(1);
            for (int i = 0; i < 60; i++) {
                y.hide(6);
                y.give(1, 9);
                y.quarters(1);
            }
            due("rows that are no more", y.led(0, false), 0);
            due("their QUARTER", y.led(0, true), NONE);
            due("all 60", y.led(1, false), 60);
        });
        edge("(12 are remembered; QUARTERS of one call are one)", () -> {
            HearthMoney x = of("house 0 windows 0");
            due("none", x.undo(), false);
            for (int i = 1; i <= 12; i++) {
                x.give(0, 1);
                due("acts", x.count(14), i);
            }
            x.quarters(60);
            due("12 at most", x.count(14), 12);
            due("undo", x.undo(), true);
            due("QUARTER", x.count(4), 0);
            for (int i = 11; i >= 1; i--) {
                due("acts", x.count(14), i);
                due("undo", x.undo(), true);
                due("PURSE", x.house(0, 0), i);
            }
            due("the first act is not remembered", x.undo(), false);
            due("PURSE", x.house(0, 0), 1);
            for (int i = 0; i < 30; i++) {
                x.give(0, 1);
            }
            x.undo();
            x.give(0, 5);
            due("an undone one is forgotten", x.undo(), true);
            due("PURSE", x.house(0, 0), 30);
        });
        edge("A text, going back: none are remembered.", () -> {
            HearthMoney x = of("house 0 windows 0");
            String[] after = {"parish", "law", "back"};
            x.image();
            for (String what : after) {
                x.give(0, 1);
                if (what.equals("parish")) {
                    due(what, parish(x, ""), 2);
                } else if (what.equals("law")) {
                    due(what, law(x, ""), 0);
                } else {
                    due(what, x.back(), true);
                }
                due("acts behind " + what, x.count(14), 0);
                due("undo behind " + what, x.undo(), false);
            }
            x.give(0, 1);
            parish(x, "rate");
            law(x, "tax");
            due("a wrong text is none", x.count(14), 1);
        });
        edge("THE IMAGE (one) of all may be kept, and gone back to (but for the TAPE, fault() and THE IMAGE itself).", () -> {
            HearthMoney x = of("house 0 windows 0");
            x.image();
            x.give(0, 1);
            x.image();
            x.give(0, 1);
            parish(x, "rates");
            x.feed(0, 0, 0, 0, 0);
            due("back", x.back(), true);
            due("the latest one", x.house(0, 0), 1);
            due("fault() stays", x.fault(), 0);
            due("the TAPE stays", x.end(20), true);
            x.give(0, 7);
            due("back once more", x.back(), true);
            due("PURSE", x.house(0, 0), 1);
            x.give(0, 7);
            x.undo();
            due("undone, THE IMAGE stays", x.back(), true);
        });
    }

    /** SPANS in which the first SEED and the last one tell, and those beyond them would. */
    private static void spanned() {
        boolean[] told = new boolean[8];
        for (int n = 1; n <= 20; n++) {
            for (int find = 10; find <= 90; find += 10) {
                String house = find % 20 == 0 ? "house 999 windows 0;visit 24;" : "house 999 windows 0 tells 30;visit 30;";
                HearthMoney x = of(house + hearths(0, find % 20 == 0 ? 1 : 2), "find " + find);
                hideAll(x);
                int[] taken = new int[8];
                for (int seed = 0; seed < 8; seed++) {
                    x.seed(seed);
                    taken[seed] = x.trial(n, false);
                }
                int[] six = Arrays.copyOfRange(taken, 1, 7);
                Arrays.sort(six);
                due("the least of " + n, x.span(n, false), six[0]);
                due("the greatest of " + n, x.span(n, true), six[5]);
                for (int seed : new int[] {1, 6}) {
                    told[seed] |= taken[seed] < six[1] || taken[seed] > six[4];
                }
                for (int seed : new int[] {0, 7}) {
                    told[seed] |= taken[seed] < six[0] || taken[seed] > six[5];
                }
            }
        }
        for (int seed : new int[] {0, 1, 6, 7}) {
            due("some SPAN hangs on SEED " + seed, told[seed], true);
        }
    }

    // ---- Exceptions.

    private static HearthMoney some() {
        HearthMoney x = of("house 99 windows 0;house 0 windows 0;visit 100;" + hearths(0, 3), "find 99;find 1;tax 1");
        x.hide(0);
        x.quarters(1);
        x.wall(1);
        return x;
    }

    /** A call that throws: what it throws, and that nothing but a TAPE that is used up changes. */
    private static void refused(HearthMoney x, String call, IntSupplier asked, int want) {
        List<Integer> was = all(x);
        int fault = x.fault();
        put(x, "bed 7");
        due(call, ask(asked), want);
        due("all is as it was behind " + call, all(x).equals(was), true);
        due("fault() is as it was behind " + call, x.fault(), fault);
        due("the TAPE is as it was behind " + call, x.end(5), true);
    }

    private static void exceptions() {
        edge("Of several exceptions the one told first is thrown", () -> {
            HearthMoney x = some();
            due("house", ask(() -> x.house(2, 11)), BOUNDS);
            due("hearth", ask(() -> x.hearth(3, 8)), BOUNDS);
            due("give", ask(() -> x.give(2, 0)), BOUNDS);
            due("least", ask(() -> x.least(2, 1000)), BOUNDS);
            due("ahead", ask(() -> x.ahead(2, 101)), BOUNDS);
            due("flue", ask(() -> x.flue(3, 10)), BOUNDS);
            due("smokes", smokes(x, 2, false, 77), BOUNDS);
            due("look", look(x, 2, 77), BOUNDS);
            for (int i = 2; i <= 12; i++) {
                parish(x, "");
            }
            due("parish, wrong and a 13th", parish(x, "bed"), ARGUMENT);
            due("parish, a 13th", parish(x, "bed 1"), UNSUPPORTED);
        });
        edge("a call that throws changes nothing but the TAPE, where it is used up", () -> {
            HearthMoney x = some();
            refused(x, "wall(1)", () -> x.wall(1), STATE);
            refused(x, "wall(3)", () -> x.wall(3), BOUNDS);
            refused(x, "open(0)", () -> x.open(0), STATE);
            refused(x, "open(3)", () -> x.open(3), BOUNDS);
            HearthMoney y = some();
            refused(y, "hide(1)", () -> y.hide(1), STATE);
            refused(y, "hide(-1)", () -> y.hide(-1), BOUNDS);
            refused(y, "paper(2)", () -> y.paper(2, true) ? 1 : 0, BOUNDS);
            refused(y, "flue(0, 10)", () -> y.flue(0, 10), BOUNDS);
            HearthMoney z = some();
            refused(z, "rate(21)", () -> z.rate(21), ARGUMENT);
            refused(z, "give(0, 0)", () -> z.give(0, 0), ARGUMENT);
            refused(z, "quarters(0)", () -> z.quarters(0), ARGUMENT);
            refused(z, "quarters(61)", () -> z.quarters(61), ARGUMENT);
            HearthMoney w = some();
            List<Integer> was = all(w);
            due("smokes", smokes(w, 0, true, 77), ARGUMENT);
            due("look", look(w, 0, 77), ARGUMENT);
            due("parish", parish(w, "bed 2;bed"), ARGUMENT);
            due("law", law(w, "tax 2;tax"), ARGUMENT);
            due("all is as it was", all(w).equals(was), true);
            due("the TAPE is used up", w.end(1), false);
            HearthMoney full = of("rate 1");
            for (int i = 2; i <= 12; i++) {
                parish(full, "");
            }
            full.rate(5);
            List<Integer> stood = all(full);
            due("a 13th", parish(full, "bed 7"), UNSUPPORTED);
            due("all is as it was", all(full).equals(stood), true);
            due("the TAPE is used up", full.end(1), false);
        });
        edge("IndexOutOfBoundsException: there is no such HOUSE, HEARTH, TOWER, FLUE.", () -> {
            HearthMoney x = some();
            for (int none : NO_HOUSE_OR_HEARTH) {
                IntSupplier[] calls = {() -> x.house(none, 0), () -> x.hearth(none, 0), () -> x.wall(none), () -> x.open(none), () -> x.hide(none),
                    () -> x.paper(none, true) ? 1 : 0, () -> x.flue(none, 0), () -> x.flue(0, none), () -> x.give(none, 1), () -> x.stacks(none),
                    () -> x.plan(none, true), () -> x.smokes(none, true), () -> x.look(none), () -> x.window(none), () -> x.odds(none),
                    () -> x.broke(none), () -> x.game(none), () -> x.crowd(none), () -> x.warmer(none), () -> x.least(none, 0),
                    () -> x.ahead(none, 0), () -> x.led(none, true)};
                for (int i = 0; i < calls.length; i++) {
                    due("call " + i + " of " + none, ask(calls[i]), BOUNDS);
                }
            }
            due("HOUSE 1", x.house(1, 0), 0);
            due("HOUSE 2", ask(() -> x.house(2, 0)), BOUNDS);
            due("HEARTH 2", x.hearth(2, 0), 0);
            due("HEARTH 3", ask(() -> x.hearth(3, 0)), BOUNDS);
            due("TOWER 4", x.stacks(4), 0);
            due("TOWER 5", ask(() -> x.stacks(5)), BOUNDS);
            due("FLUE 9", x.flue(0, 9), 0);
            due("FLUE 10", ask(() -> x.flue(0, 10)), BOUNDS);
        });
        edge("IllegalArgumentException: a number is none", () -> {
            HearthMoney x = some();
            for (int none : new int[] {-1, -100, 10000, MAX, MIN}) {
                IntSupplier[] calls = {() -> x.rate(none), () -> x.give(0, none), () -> x.quarters(none), () -> x.brings(none), () -> x.round(none),
                    () -> x.first(none), () -> x.least(0, none), () -> x.ahead(0, none), () -> x.trial(none, true), () -> x.span(none, true)};
                for (int i = 0; i < calls.length; i++) {
                    due("call " + i + " of " + none, ask(calls[i]), ARGUMENT);
                }
            }
        });
        edge("Sets are bits; of none they count for nothing.", () -> {
            HearthMoney x = of(houses(1));
            due("HEARTHS", x.house(0, 10), 0);
            due("TOWERS", x.house(0, 3), 0);
            due("SMOKE", x.house(0, 8), 0);
            due("open", x.count(10), 0);
            due("walled up", x.count(11), 0);
            due("FREE", x.free(), 0);
            due("HIDDEN", x.hidden(), 0);
            due("PLAN", x.plan(0, false), 0);
            due("LEAST", x.least(0, 0), 0);
            due("ROUND", x.round(6), 0);
            due("TRIAL", x.trial(9, true), 0);
        });
    }

    // ---- How lines are written, and what follows from it.

    private static void forms() {
        edge("sees N H", () -> {
            right("sees 0 0");
            wrong("sees", 4);
            wrong("sees 0;", 6);
            wrong("sees 0 0 0", 9);
            wrong("sees of 0", 5);
            wrong("sees 00", 7);
        });
        edge("hearth K of H flue N warm N wall N", () -> {
            right("hearth pot of 0 flue 1 warm 1 wall 1");
            wrong("hearth of 0 flue 1 warm 1 wall 1", 7);
            wrong("hearth pot 0 flue 1 warm 1 wall 1", 11);
            wrong("hearth pot of flue 1 warm 1 wall 1", 14);
            wrong("hearth pot of 0 warm 1 flue 1 wall 1", 16);
            wrong("hearth pot of 0 flue 1 wall 1", 23);
            wrong("hearth pot of 0 flue 1 warm 1;", 29);
            wrong("hearth pot of 0 flue 1 warm 1 wall 1 wall 1", 37);
        });
        edge("C: ALL { or ALL }; ALL: ATOM { and ATOM }; ATOM: not ATOM | ( C )", () -> {
            HearthMoney x = of(houses(1) + ";" + hearths(0, 1));
            String[] hold = {"fire", "not pot", "not not fire", "fire or pot and pot", "pot and pot or fire", "not pot and fire", "(fire)",
                "not (pot or oven)", "pot or oven or forge or fire", "fire and fire and fire", "not pot and pot or fire", "not warm > 1"};
            String[] fail = {"pot", "oven", "forge", "paper", "not fire", "(fire or pot) and pot", "pot and (pot or fire)", "not (not pot and fire)",
                "fire and fire and pot", "pot or oven or forge or paper", "not not pot"};
            for (String c : hold) {
                law(x, "free if " + c);
                due("free if " + c, x.hearth(0, 6), 0);
            }
            for (String c : fail) {
                law(x, "free if " + c);
                due("not free if " + c, x.hearth(0, 6), 2);
            }
            wrongLaw("free if and pot", 8);
            wrongLaw("free if or pot", 8);
            wrongLaw("free if pot and and pot", 16);
            wrongLaw("free if pot and or pot", 16);
            wrongLaw("free if pot not pot", 12);
            wrongLaw("free if ()", 9);
            wrongLaw("free if (pot))", 13);
            wrongLaw("free if (pot;free", 12);
            wrongLaw("free if pot if pot", 12);
        });
        edge("the begin of the first thing that cannot stand there", () -> {
            wrong("  ;rate 99", 2);
            wrong("rate 1;;rate 99", 7);
            wrong("rate 1,rate 99", 6);
            wrong("99 rate", 0);
            wrong("   rates 99;rate 99", 3);
            wrongLaw("  ;free", 2);
            wrongLaw("free;;free", 5);
            wrongLaw("free.", 4);
            wrongLaw("free if warm = 3", 13);
            wrongLaw("free if warm <= 3", 14);
            wrongLaw("free if warm - 3 < 3", 13);
        });
        edge("It pays TAX of all its open HEARTHS, by all as it is then, and the FINES, together", () -> {
            HearthMoney x = of("house 99 windows 0;visit 100;quarter 4;" + hearths(0, 3), "find 99;find 1;tax 7 if quarter > 4;tax 1 if hearths > 2");
            x.hide(1);
            due("three open, a FINE, by QUARTER 4", x.quarters(1), 3 * 3 + 5);
            due("by QUARTER 5", x.quarters(1), 3 * 10);
            x.wall(0);
            due("by two", x.quarters(1), 2 * 9);
        });
        edge("all is as ahead of it (but for the TAPE, fault(), THE IMAGE)", () -> {
            HearthMoney x = of("house 99 windows 0;visit 100;" + hearths(0, 2), "find 99;find 1");
            x.hide(0);
            x.seed(5);
            List<Integer> was = all(x);
            x.quarters(60);
            x.seed(6);
            x.image();
            parish(x, "  rates");
            x.feed(0, 0, 0, 0, 0);
            due("undo", x.undo(), true);
            due("all, SEED and THE LOG, too", all(x).equals(was), true);
            due("fault()", x.fault(), 2);
            due("the TAPE", x.end(20), true);
            due("THE IMAGE", x.back(), true);
            due("of behind it", x.count(4), 60);
        });
    }

    // ---- Questions, by their promises.

    private static void questions() {
        edge("PURSE then (9999 at most).", () -> {
            HearthMoney x = rich();
            due("9999", x.give(0, 1), 9999);
            due("9999", x.give(0, 999), 9999);
        });
        edge("STACKS.", () -> {
            HearthMoney x = of(houses(1) + ";sees 0 0;sees 4 0;" + hearths(0, 1));
            due("TOWER 0", x.stacks(0), 1);
            due("TOWER 4", x.stacks(4), 1);
            due("TOWER 5", ask(() -> x.stacks(5)), BOUNDS);
            due("TOWER -1", ask(() -> x.stacks(-1)), BOUNDS);
            x.wall(0);
            due("no smoke", x.stacks(4), 0);
        });
        edge("TOWERS, as bits; NONE.", () -> {
            due("no HOUSE", new HearthMoney().towers(), 0);
            due("no smoke", of(houses(1)).towers(), 0);
            due("not seen", of(houses(1) + ";" + hearths(0, 1)).towers(), NONE);
            due("four of five", of(houses(5) + ";sees 0 0;sees 1 1;sees 2 2;sees 3 3;sees 4 4;" + hearths(0, 1) + ";" + hearths(1, 1)
                + ";" + hearths(2, 1) + ";" + hearths(3, 1)).towers(), 15);
            HearthMoney x = of(houses(5) + ";sees 0 0;sees 1 1;sees 2 2;sees 3 3;sees 4 4;" + hearths(0, 1));
            parish(x, hearths(1, 1) + ";" + hearths(2, 1) + ";" + hearths(3, 1) + ";" + hearths(4, 1));
            due("all five", x.towers(), 31);
        });
        edge("PLAN, as bits (much false), or how much (may be below 0).", () -> {
            HearthMoney x = of(houses(2) + ";rate 20;hearth pot of 1 flue 0 warm 1 wall 30;" + hearths(0, 1));
            due("left open", x.plan(1, false), 0);
            due("below 0", x.plan(1, true), -18);
            due("walled up", x.plan(0, false), 2);
            due("below 0", x.plan(0, true), -1);
            due("HOUSE 2", ask(() -> x.plan(2, false)), BOUNDS);
            due("HOUSE -1", ask(() -> x.plan(-1, true)), BOUNDS);
            due("not done", x.count(11), 0);
        });
        edge("YIELD. IllegalArgumentException: the RATE is none.", () -> {
            HearthMoney x = of(houses(2) + ";" + hearths(0, 1) + ";" + hearths(1, 1));
            due("3", x.brings(3), 6);
            due("4", x.brings(4), 0);
            due("20", x.brings(20), 0);
            due("21", ask(() -> x.brings(21)), ARGUMENT);
            due("-1", ask(() -> x.brings(-1)), ARGUMENT);
        });
        edge("DEAR.", () -> {
            due("nothing to be had", of(houses(6)).dear(), 0);
            due("3", of(houses(2) + ";" + hearths(0, 1) + ";" + hearths(1, 1)).dear(), 3);
            HearthMoney all = of(houses(1) + ";" + hearths(0, 1), "tax 99;tax 99");
            due("walled up by any", all.dear(), 0);
        });
        edge("ROUND, as bits. IllegalArgumentException: N is none.", () -> {
            HearthMoney x = twelveHidden();
            due("0", x.round(0), 0);
            due("1", x.round(1), 1);
            due("6 of two", x.round(6), 3);
            due("7", ask(() -> x.round(7)), ARGUMENT);
            due("-1", ask(() -> x.round(-1)), ARGUMENT);
        });
        edge("how many sets (fewest false), or FEWEST; NONE.", () -> {
            HearthMoney x = of(houses(1) + ";" + hearths(0, 1));
            due("no set: how many", smokes(x, 0, false, 5, 1), 0);
            due("no set: FEWEST", smokes(x, 0, true, 5, 1), NONE);
            due("told both ways", smokes(x, 0, true, 0, 1, 0, 0), NONE);
        });
        edge("`int window(int house) throws IndexOutOfBoundsException`: WINDOW.", () -> {
            HearthMoney x = of("house 9 windows 30;rate 20;" + hearths(0, 6), repeat("tax 99", 12));
            due("the least", x.window(0), 24 - 6 * 1208);
            due("HOUSE 1", ask(() -> x.window(1)), BOUNDS);
        });
        edge("`int odds(int house) throws IndexOutOfBoundsException`: ODDS.", () -> {
            HearthMoney x = of("house 9 windows 0;house 9 windows 0 tells 7;visit 33");
            due("HOUSE 0", x.odds(0), 3300);
            due("HOUSE 1", x.odds(1), 3300 + 67 * 7);
            due("HOUSE 2", ask(() -> x.odds(2)), BOUNDS);
            due("HOUSE -1", ask(() -> x.odds(-1)), BOUNDS);
        });
        edge("`int alike()`: ALIKE.", () -> {
            HearthMoney x = of(houses(3) + ";" + hearths(0, 1) + ";" + hearths(1, 1));
            due("one pair", x.alike(), 1);
            x.wall(0);
            x.wall(1);
            due("all three", x.alike(), 3);
        });
        edge("COLDEST; NONE.", () -> {
            due("none", new HearthMoney().coldest(), NONE);
            HearthMoney x = of(houses(2) + ";" + hearths(0, 1) + ";" + hearths(1, 1));
            due("of several the least", x.coldest(), 0);
            x.hide(1);
            due("a hidden one warms", x.coldest(), 0);
            x.wall(1);
            due("a walled up one does not", x.coldest(), 1);
        });
        edge("BROKE; NONE.", () -> {
            HearthMoney x = of("house 0 windows 0;house 200 windows 0;house 201 windows 0;" + hearths(1, 1) + ";" + hearths(2, 1));
            due("now", x.broke(0), 0);
            due("100", x.broke(1), 100);
            due("101", x.broke(2), NONE);
            due("HOUSE 3", ask(() -> x.broke(3)), BOUNDS);
            due("HOUSE -1", ask(() -> x.broke(-1)), BOUNDS);
        });
        edge("GAME, as bits; NONE.", () -> {
            HearthMoney x = of("house 99 windows 0;rate 1;bed 1;fine 0;" + hearths(0, 2), "find 99;find 1");
            // LOSS 10 * 1 / 10 = 1: hidden 2 or 1, open 1; the man 0 or 0, and 0 or 1.
            due("hidden or open, not looked for", x.game(0), 10);
            x.wall(0);
            due("none", x.game(0), NONE);
            x.open(0);
            due("opened", x.game(0), 10);
            due("HEARTH 2", ask(() -> x.game(2)), BOUNDS);
            due("HEARTH -1", ask(() -> x.game(-1)), BOUNDS);
        });
        edge("CROWD; NONE.", () -> {
            HearthMoney x = of(houses(2) + ";" + hearths(1, 6));
            due("none", x.crowd(0), NONE);
            due("all", x.crowd(1), 0);
            due("HOUSE 2", ask(() -> x.crowd(2)), BOUNDS);
        });
        edge("WARMER; NONE.", () -> {
            HearthMoney x = of("house 99 windows 0;house 9 windows 0;hearth pot of 0 flue 0 warm 9 wall 1;hearth pot of 0 flue 0 warm 9 wall 1;hearth pot of 0 flue 0 warm 1 wall 1");
            due("no HEARTH", x.warmer(1), NONE);
            x.wall(2);
            due("by nothing", x.warmer(0), NONE);
            x.wall(1);
            due("16", x.warmer(0), 1);
            x.wall(0);
            due("of several the least", x.warmer(0), 0);
            due("HOUSE 2", ask(() -> x.warmer(2)), BOUNDS);
        });
        edge("FIRST; NONE. IllegalArgumentException: so much is none.", () -> {
            HearthMoney x = of("house 3 windows 0;" + hearths(0, 1));
            due("all of the PURSE", x.first(3), 2);
            due("more", x.first(4), NONE);
            due("0", ask(() -> x.first(0)), ARGUMENT);
            due("10000", ask(() -> x.first(10000)), ARGUMENT);
        });
        edge("`int free()`: FREE, as bits.", () -> {
            HearthMoney x = twelveHidden();
            due("none", x.free(), 0);
            x.rate(0);
            due("all 12", x.free(), 4095);
        });
        edge("`int hidden()`: HIDDEN, as bits.", () -> {
            HearthMoney x = twelveHidden();
            x.wall(0);
            x.open(11);
            due("ten", x.hidden(), 2046);
        });
        edge("CHEAPEST; NONE.", () -> {
            HearthMoney x = of("house 99 windows 0;hearth fire of 0 flue 0 warm 1 wall 30;hearth pot of 0 flue 0 warm 1 wall 29");
            due("the least WALL", x.cheapest(), 1);
            x.rate(0);
            due("no TAX", x.cheapest(), NONE);
            x.rate(1);
            x.wall(0);
            x.wall(1);
            due("all walled up", x.cheapest(), NONE);
        });
        edge("LEAST, as bits. IllegalArgumentException: X is none.", () -> {
            HearthMoney x = of(houses(1) + ";rate 20;" + hearths(0, 6), repeat("tax 99", 12));
            due("0", x.least(0, 0), 63);
            due("999", x.least(0, 999), 63);
            due("1000", ask(() -> x.least(0, 1000)), ARGUMENT);
            due("-1", ask(() -> x.least(0, -1)), ARGUMENT);
            due("HOUSE 1", ask(() -> x.least(1, 0)), BOUNDS);
            law(x, "free if hearths < 6");
            due("one makes all free", x.least(0, 0), 1);
        });
        edge("AHEAD of a HOUSE: PURSE. IllegalArgumentException: N is none.", () -> {
            HearthMoney x = of("house 3 windows 0;" + hearths(0, 1));
            due("0", x.ahead(0, 0), 3);
            due("1", x.ahead(0, 1), 1);
            due("2", x.ahead(0, 2), 0);
            due("100", x.ahead(0, 100), 0);
            due("101", ask(() -> x.ahead(0, 101)), ARGUMENT);
            due("-1", ask(() -> x.ahead(0, -1)), ARGUMENT);
            due("HOUSE 1", ask(() -> x.ahead(1, 0)), BOUNDS);
        });
        edge("TRIAL: TAKEN (hidden false), or HEARTHS, as bits. IllegalArgumentException: N is none.", () -> {
            HearthMoney x = twelveHidden();
            due("0", x.trial(0, true), 4095);
            due("1", x.trial(1, true), 0);
            due("1", x.trial(1, false), 12 * 7);
            due("100", x.trial(100, false), 2 * 999);
            due("101", ask(() -> x.trial(101, true)), ARGUMENT);
            due("-1", ask(() -> x.trial(-1, false)), ARGUMENT);
        });
        edge("SPAN: the least (most false), or the greatest. IllegalArgumentException: N is none.", () -> {
            HearthMoney x = twelveHidden();
            due("0", x.span(0, true), 0);
            due("1", x.span(1, false), 12 * 7);
            due("100", x.span(100, true), 2 * 999);
            due("101", ask(() -> x.span(101, true)), ARGUMENT);
            due("-1", ask(() -> x.span(-1, false)), ARGUMENT);
        });
        edge("LED: how many rows (quarter false), or the QUARTER; NONE.", () -> {
            HearthMoney x = some();
            due("one", x.led(0, false), 1);
            due("its QUARTER", x.led(0, true), 0);
            due("none", x.led(1, false), 0);
            due("none", x.led(1, true), NONE);
            due("HOUSE 2", ask(() -> x.led(2, false)), BOUNDS);
            due("HOUSE -1", ask(() -> x.led(-1, true)), BOUNDS);
        });
        edge("THE LOG so many ago (0 the latest)", () -> {
            HearthMoney x = twelveHidden();
            x.quarters(1);
            for (int ago = 0; ago < 12; ago++) {
                due("HEARTH", x.log(ago, 1), 11 - ago);
                due("HOUSE", x.log(ago, 2), ago < 6 ? 1 : 0);
            }
            due("12 ago", x.log(12, 0), NONE);
        });
        edge("3 LINES of THE LAW (NONE without one)", () -> {
            HearthMoney x = new HearthMoney();
            due("without one", x.count(3), NONE);
            law(x, "tax");
            due("a wrong one", x.count(3), NONE);
            law(x, " ");
            due("blanks", x.count(3), 0);
            law(x, repeat("free", 12));
            due("12", x.count(3), 12);
        });
    }

    // ---- Single promises.

    private static void promises() {
        edge("NONE, and none come, if it would have more than 400", () -> {
            HearthMoney x = new HearthMoney();
            for (int i = 1; i <= 20; i++) {
                due("feed", x.feed(0x20202020, 0x20202020, 0x20202020, 0x20202020, 0x20202020), 20 * i);
            }
            due("420", x.feed(-1, -1, -1, -1, -1), NONE);
            due("none came", x.end(401), false);
            due("381", x.end(381), true);
            due("401", x.feed(-1, -1, -1, -1, -1), NONE);
            due("none came", x.end(382), false);
            due("blanks alone", ask(x::parish), 1);
            due("used up", x.feed(0, 0, 0, 0, 0), 20);
        });
        edge("Twenty bytes come behind the TAPE, of each number the highest first", () -> {
            HearthMoney x = new HearthMoney();
            due("ra", x.feed(0x72610000, 0, 0, 0, 0), 20);
            due("cut", x.end(2), true);
            due("te 7", x.feed(0x74652037, MIN, MAX, -1, 0), 22);
            due("cut", x.end(6), true);
            due("a text of both", ask(x::parish), 1);
            due("RATE", x.count(5), 7);
            x.feed(0x20202020, 0x20202020, 0x20202020, 0x20202020, 0x20202080);
            due("the last byte is 128", ask(x::parish), ARGUMENT);
            due("fault", x.fault(), 19);
        });
        edge("The TAPE has its first n bytes alone: true; false, and nothing happens, if it has fewer, or n is below 0.", () -> {
            HearthMoney x = new HearthMoney();
            due("none of none", x.end(0), true);
            due("1 of none", x.end(1), false);
            x.feed(0x62656420, 0x39202020, 0x20202020, 0x20202020, 0x20202020);
            for (int n : new int[] {-1, MIN, 21, 400, 401, MAX}) {
                due("end(" + n + ")", x.end(n), false);
            }
            due("all", x.end(20), true);
            due("five", x.end(5), true);
            due("six", x.end(6), false);
            due("nothing happened", ask(x::parish), 1);
            due("BED", x.count(8), 9);
            x.feed(0x62656420, 0x37373737, 0x37373737, 0x37373737, 0x37373737);
            x.end(5);
            due("digits behind it are no more", ask(x::parish), 2);
            due("BED", x.count(8), 7);
            x.feed(0x66726565, 0x7a7a7a7a, 0x7a7a7a7a, 0x7a7a7a7a, 0x7a7a7a7a);
            x.end(4);
            due("letters behind it are no more", ask(x::law), 1);
        });
        edge("if it would have more than 400", () -> {
            HearthMoney x = new HearthMoney();
            due("a number at the end of 400 bytes", parish(x, " ".repeat(394) + "rate 9"), 1);
            due("RATE", x.count(5), 9);
            due("a word at the end of 400 bytes", law(x, "tax 2" + " ".repeat(389) + "if pot"), 1);
            String text = "free if 1<2" + "+1".repeat(194);
            due("399 bytes", text.length(), 399);
            due("a SUM of 195 PARTS", law(x, text), 1);
            due("a + at the end of 400 bytes", law(x, text + "+"), ARGUMENT);
            due("the text's length", x.fault(), 400);
            text = "free if pot" + " or pot".repeat(55);
            due("a C of 56 ALLS", law(x, text), 1);
        });
        edge("a text of THE PARISH: how many there are. IllegalArgumentException: it is wrong; UnsupportedOperationException: there are 12.", () -> {
            HearthMoney x = new HearthMoney();
            due("an empty TAPE", ask(x::parish), 1);
            due("wrong", parish(x, "x"), ARGUMENT);
            due("it does not count", parish(x, "bed 1"), 2);
            for (int i = 3; i <= 12; i++) {
                due("text", parish(x, "bed 1"), i);
            }
            due("wrong", parish(x, "x"), ARGUMENT);
            due("right", parish(x, "bed 2"), UNSUPPORTED);
            due("right and empty", ask(x::parish), UNSUPPORTED);
        });
        edge("THE LAW: how many LINES. IllegalArgumentException: the text is wrong.", () -> {
            HearthMoney x = new HearthMoney();
            due("an empty TAPE", ask(x::law), 0);
            due("one", law(x, "free"), 1);
            due("wrong", law(x, "free;"), ARGUMENT);
            due("LINES", x.count(3), 1);
            due("the TAPE is used up", x.end(1), false);
            for (int i = 0; i < 30; i++) {
                due("any number of texts", law(x, "free"), 1);
            }
        });
        edge("The first wrong byte of the latest text that was read; NONE without one, and ahead of any.", () -> {
            HearthMoney x = new HearthMoney();
            due("ahead of any", x.fault(), NONE);
            law(x, "free if");
            due("of the law", x.fault(), 7);
            parish(x, "x");
            due("of the parish", x.fault(), 0);
            smokes(x, 0, true, 0, 0, 7);
            due("no text was read", x.fault(), 0);
            parish(x, "bed 1");
            due("without one", x.fault(), NONE);
            law(x, "x");
            law(x, "");
            due("without one", x.fault(), NONE);
            parish(x, " ".repeat(396) + "bed ");
            due("the text's length", x.fault(), 400);
        });
        edge("10 its HEARTHS, as bits. NoSuchElementException: another what.", () -> {
            HearthMoney x = some();
            for (int what : new int[] {-1, 11, MIN, MAX}) {
                due("house(0, " + what + ")", ask(() -> x.house(0, what)), ELEMENT);
            }
            due("house(0, 10)", x.house(0, 10), 7);
        });
        edge("7 what it is FOUND by. NoSuchElementException: another what.", () -> {
            HearthMoney x = some();
            for (int what : new int[] {-1, 8, MIN, MAX}) {
                due("hearth(0, " + what + ")", ask(() -> x.hearth(0, what)), ELEMENT);
            }
            due("hearth(0, 7)", x.hearth(0, 7), 100);
        });
        edge("IllegalStateException: it is so, or PURSE is less than WALL.", () -> {
            HearthMoney x = of("house 3 windows 0;hearth fire of 0 flue 0 warm 1 wall 3;hearth fire of 0 flue 0 warm 1 wall 1;hearth fire of 0 flue 0 warm 1 wall 4");
            due("PURSE 3, WALL 4", ask(() -> x.wall(2)), STATE);
            due("PURSE 3, WALL 3", x.wall(0), 0);
            due("it is so", ask(() -> x.wall(0)), STATE);
            due("PURSE 0, WALL 1", ask(() -> x.wall(1)), STATE);
        });
        edge("One that is walled up or hidden is open: the STATE that it had. IllegalStateException: it is open.", () -> {
            HearthMoney x = of("house 2 windows 0;" + hearths(0, 2));
            due("it is open", ask(() -> x.open(0)), STATE);
            x.wall(0);
            x.hide(1);
            due("walled up", x.open(0), 1);
            due("hidden", x.open(1), 2);
            due("without money", x.house(0, 0), 0);
            due("it is open", ask(() -> x.open(1)), STATE);
        });
        edge("IllegalStateException: it is not open, or PURSE is less than BED.", () -> {
            HearthMoney x = of("house 8 windows 0;bed 3;" + hearths(0, 3));
            due("hidden", x.hide(0), 5);
            due("it is hidden", ask(() -> x.hide(0)), STATE);
            x.wall(1);
            due("it is walled up", ask(() -> x.hide(1)), STATE);
            x.wall(0);
            due("PURSE 3, BED 3", x.hide(2), 0);
            x.open(2);
            due("PURSE 0, BED 3", ask(() -> x.hide(2)), STATE);
        });
        edge("A PAPER, or none: whether that changed.", () -> {
            HearthMoney x = of(houses(1));
            due("none, and none", x.paper(0, false), false);
            due("given", x.paper(0, true), true);
            due("and given", x.paper(0, true), false);
            due("taken away", x.paper(0, false), true);
            x.undo();
            due("undone", x.house(0, 1), 1);
        });
        edge("A HEARTH has another FLUE: which it had.", () -> {
            HearthMoney x = of(houses(1) + ";" + hearths(0, 1));
            due("FLUE 9", x.flue(0, 9), 0);
            due("FLUE 0", x.flue(0, 0), 9);
            due("FLUE -1", ask(() -> x.flue(0, -1)), BOUNDS);
            due("FLUE 10", ask(() -> x.flue(0, 10)), BOUNDS);
            x.wall(0);
            due("of a walled up one", x.flue(0, 5), 0);
        });
        edge("RATE is told: what it was. IllegalArgumentException: it is none.", () -> {
            HearthMoney x = new HearthMoney();
            due("20", x.rate(20), 2);
            due("21", ask(() -> x.rate(21)), ARGUMENT);
            due("0", x.rate(0), 20);
            due("-1", ask(() -> x.rate(-1)), ARGUMENT);
            due("RATE", x.count(5), 0);
        });
        edge("IllegalArgumentException: n is none (1 to 999).", () -> {
            HearthMoney x = of("house 0 windows 0");
            due("0", ask(() -> x.give(0, 0)), ARGUMENT);
            due("-1", ask(() -> x.give(0, -1)), ARGUMENT);
            due("1", x.give(0, 1), 1);
            due("999", x.give(0, 999), 1000);
            due("1000", ask(() -> x.give(0, 1000)), ARGUMENT);
        });
        edge("So many QUARTERS more (1 to 60): what was paid in these. IllegalArgumentException: they are none.", () -> {
            HearthMoney x = of("house 200 windows 0;" + hearths(0, 1));
            due("0", ask(() -> x.quarters(0)), ARGUMENT);
            due("61", ask(() -> x.quarters(61)), ARGUMENT);
            due("1", x.quarters(1), 2);
            due("60", x.quarters(60), 120);
            due("in these", x.quarters(60), 78);
            due("no more", x.quarters(1), 0);
        });
        edge("3 its TAX; NONE without. NoSuchElementException: another what.", () -> {
            HearthMoney x = some();
            for (int what : new int[] {-1, 4, MIN, MAX}) {
                due("log(0, " + what + ")", ask(() -> x.log(0, what)), ELEMENT);
                due("log(-1, " + what + ")", ask(() -> x.log(-1, what)), ELEMENT);
            }
            due("the only row", x.log(0, 3), 3);
            for (int ago : new int[] {1, 59, 60, 61, -1, -60, MAX, MIN}) {
                due("log(" + ago + ", 0)", x.log(ago, 0), NONE);
            }
        });
        edge("SEED: what it was.", () -> {
            HearthMoney x = new HearthMoney();
            int was = 1;
            for (int n : new int[] {0, -1, MIN, MAX, 1}) {
                due("seed(" + n + ")", x.seed(n), was);
                was = n;
            }
        });
        edge("UNDONE: whether there was one.", () -> {
            HearthMoney x = of("house 9 windows 0;" + hearths(0, 1));
            due("none", x.undo(), false);
            x.seed(9);
            x.plan(0, true);
            x.trial(3, true);
            due("none", x.undo(), false);
            List<Integer> was = all(x);
            Runnable[] acts = {() -> x.wall(0), () -> x.hide(0), () -> x.paper(0, true), () -> x.flue(0, 9), () -> x.rate(0),
                () -> x.give(0, 999), () -> x.quarters(60)};
            for (Runnable act : acts) {
                act.run();
                due("an act", x.count(14), 1);
                due("undone", x.undo(), true);
                due("all is as ahead of it", all(x).equals(was), true);
                due("none any more", x.undo(), false);
            }
            x.hide(0);
            x.open(0);
            due("opened", x.undo(), true);
            due("hidden", x.hidden(), 1);
        });
        edge("THE IMAGE is kept.", () -> {
            HearthMoney x = of("house 9 windows 0;" + hearths(0, 1));
            x.give(0, 1);
            x.image();
            due("no act", x.count(14), 1);
            due("the act ahead of it", x.undo(), true);
            due("back to behind it", x.back(), true);
            due("PURSE", x.house(0, 0), 10);
        });
        edge("One goes back to THE IMAGE: true; false, and nothing happens, if none was kept.", () -> {
            HearthMoney x = of("house 9 windows 0;" + hearths(0, 1));
            x.give(0, 1);
            List<Integer> was = all(x);
            due("none was kept", x.back(), false);
            due("nothing happens", all(x).equals(was), true);
            x.image();
            law(x, "free");
            parish(x, houses(1) + ";bed 3;quarter 3;fine 3;visit 3");
            x.rate(0);
            x.quarters(3);
            due("back", x.back(), true);
            due("none are remembered", x.count(14), 0);
            was.set(14, 0);
            due("all is as it was", all(x).equals(was), true);
        });
        edge("14 acts that can be UNDONE. NONE for another what.", () -> {
            HearthMoney x = some();
            for (int what : new int[] {-1, 15, MIN, MAX}) {
                due("count(" + what + ")", x.count(what), NONE);
            }
            due("count(14)", x.count(14), 3);
        });
    }

    /** Whether the document has each sentence, and each of its promises one of them. */
    private static void checkSentences() throws IOException {
        if (!Files.exists(DOCUMENT)) {
            System.out.println("no document at " + DOCUMENT + ": the names of the tests are not looked up");
            return;
        }
        String text = Files.readString(DOCUMENT).replaceAll("\\s+", " ");
        for (String name : sentences) {
            sentence = name;
            due("the document has it", text.contains(name), true);
        }
        String[] promises = text.split("## Promise [0-9]+: |## Not promised");
        due("promises", promises.length - 2, 47);
        for (int i = 1; i < promises.length - 1; i++) {
            String promise = promises[i];
            sentence = "Promise " + i;
            due("tests of its own", sentences.stream().anyMatch(promise::contains), true);
        }
    }

    public static void main(String[] args) throws IOException {
        object();
        terms();
        parishTexts();
        lawTexts();
        things();
        wrongBytes();
        quarter();
        acts();
        rows();
        plans();
        smoke();
        choices();
        ahead();
        exceptions();
        forms();
        questions();
        promises();
        checkSentences();
        System.out.println(sentences.size() + " sentences, " + wrong + " answers are not as due");
        if (wrong != 0) {
            System.exit(1);
        }
    }
}
