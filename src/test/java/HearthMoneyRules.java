import java.lang.reflect.Constructor;
import java.lang.reflect.Field;
import java.lang.reflect.Method;
import java.lang.reflect.Modifier;
import java.nio.file.Files;
import java.nio.file.Path;
import java.util.ArrayList;
import java.util.Arrays;
import java.util.HashSet;
import java.util.List;
import java.util.Set;
import java.util.TreeSet;

/** The public face as the document writes it, and the rules of LANGUAGE.md that a look at the source can tell. */
public final class HearthMoneyRules {
    private static final String FACE = """
        int feed(int, int, int, int, int)
        boolean end(int)
        int parish() throws IllegalArgumentException, UnsupportedOperationException
        int law() throws IllegalArgumentException
        int fault()
        int house(int, int) throws IndexOutOfBoundsException, NoSuchElementException
        int hearth(int, int) throws IndexOutOfBoundsException, NoSuchElementException
        int wall(int) throws IndexOutOfBoundsException, IllegalStateException
        int open(int) throws IndexOutOfBoundsException, IllegalStateException
        int hide(int) throws IndexOutOfBoundsException, IllegalStateException
        boolean paper(int, boolean) throws IndexOutOfBoundsException
        int flue(int, int) throws IndexOutOfBoundsException
        int rate(int) throws IllegalArgumentException
        int give(int, int) throws IndexOutOfBoundsException, IllegalArgumentException
        int quarters(int) throws IllegalArgumentException
        int stacks(int) throws IndexOutOfBoundsException
        int towers()
        int plan(int, boolean) throws IndexOutOfBoundsException
        int brings(int) throws IllegalArgumentException
        int dear()
        int round(int) throws IllegalArgumentException
        int smokes(int, boolean) throws IndexOutOfBoundsException, IllegalArgumentException
        int look(int) throws IndexOutOfBoundsException, IllegalArgumentException
        int window(int) throws IndexOutOfBoundsException
        int odds(int) throws IndexOutOfBoundsException
        int alike()
        int coldest()
        int broke(int) throws IndexOutOfBoundsException
        int game(int) throws IndexOutOfBoundsException
        int crowd(int) throws IndexOutOfBoundsException
        int warmer(int) throws IndexOutOfBoundsException
        int first(int) throws IllegalArgumentException
        int free()
        int hidden()
        int cheapest()
        int least(int, int) throws IndexOutOfBoundsException, IllegalArgumentException
        int ahead(int, int) throws IndexOutOfBoundsException, IllegalArgumentException
        int trial(int, boolean) throws IllegalArgumentException
        int span(int, boolean) throws IllegalArgumentException
        int led(int, boolean) throws IndexOutOfBoundsException
        int log(int, int) throws NoSuchElementException
        int seed(int)
        boolean undo()
        void image()
        boolean back()
        int count(int)
        """;

    private static final String[] NOT_IN_SOURCE = {"->", "::", "catch", "finally", "synchronized", "assert", "Exact(", "@", "getMessage",
        "package ", "static {", "instanceof", "hashCode", "toString", "Thread", "Random", "nanoTime", "currentTime", "main("};
    private static final Set<String> THROWN = Set.of("IllegalStateException", "IllegalArgumentException", "IndexOutOfBoundsException",
        "UnsupportedOperationException", "NoSuchElementException");

    private static int wrong = 0;

    private static void rule(boolean kept, String text) {
        if (!kept) {
            wrong++;
            System.out.println("not kept: " + text);
        }
    }

    private static String names(Class<?>[] classes) {
        List<String> names = new ArrayList<>();
        for (Class<?> c : classes) {
            names.add(c.getSimpleName());
        }
        return String.join(", ", names);
    }

    private static String head(Method m) {
        String thrown = names(m.getExceptionTypes());
        return m.getReturnType().getSimpleName() + " " + m.getName() + "(" + names(m.getParameterTypes()) + ")"
            + (thrown.isEmpty() ? "" : " throws " + thrown);
    }

    private static void checkFace() throws ReflectiveOperationException {
        Set<String> have = new TreeSet<>();
        Set<String> publicNames = new HashSet<>();
        Class<?> c = HearthMoney.class;
        for (Method m : c.getDeclaredMethods()) {
            if (Modifier.isPublic(m.getModifiers())) {
                have.add(head(m));
                publicNames.add(m.getName());
            } else {
                rule(Modifier.isPrivate(m.getModifiers()), m + " is private");
            }
        }
        rule(have.equals(new TreeSet<>(Arrays.asList(FACE.strip().split("\n")))), "the heads of the document: " + have);
        rule(Modifier.isFinal(c.getModifiers()) && Modifier.isPublic(c.getModifiers()), "the class is public and final");
        Constructor<?>[] made = c.getDeclaredConstructors();
        rule(made.length == 1 && Modifier.isPublic(made[0].getModifiers()) && made[0].getParameterCount() == 0, "one constructor");
        rule(c.getField("NONE").getInt(null) == -1, "NONE");
        checkFields(c);
        for (Class<?> inside : c.getDeclaredClasses()) {
            rule(Modifier.isStatic(inside.getModifiers()) && !Modifier.isPublic(inside.getModifiers()), inside + " is static and not public");
            checkFields(inside);
            for (Method m : inside.getDeclaredMethods()) {
                rule(!publicNames.contains(m.getName()), m + " bears no name of a public one");
                rule(m.getParameterCount() <= 7, m + " has at most seven parameters");
            }
        }
        for (Method m : c.getDeclaredMethods()) {
            rule(Modifier.isPublic(m.getModifiers()) || !publicNames.contains(m.getName()), m + " bears no name of a public one");
        }
        rule(c.getDeclaredClasses().length <= 11, "at most twelve classes");
    }

    private static void checkFields(Class<?> c) {
        int own = 0;
        for (Field f : c.getDeclaredFields()) {
            int how = f.getModifiers();
            if (Modifier.isStatic(how)) {
                rule(Modifier.isFinal(how), f + " is final");
                rule(f.getType() == int.class, f + " is a number");
            } else {
                own++;
            }
            boolean face = c == HearthMoney.class && !f.getName().equals("NONE");
            rule(!face || Modifier.isPrivate(how), f + " is private");
        }
        rule(own <= 20, c + " has at most twenty fields");
    }

    private static void checkSource() throws java.io.IOException {
        List<String> lines = Files.readAllLines(Path.of("src/main/java/HearthMoney.java"));
        int begun = -1;
        String end = "";
        for (int i = 0; i < lines.size(); i++) {
            String line = lines.get(i);
            String code = line.strip();
            rule(line.chars().allMatch(ch -> ch >= 32 && ch < 127), "signs of 32 to 126 in line " + (i + 1));
            if (code.startsWith("/**") || code.startsWith("//")) {
                continue;
            }
            for (String word : NOT_IN_SOURCE) {
                rule(!code.contains(word), "no " + word + " in line " + (i + 1));
            }
            rule(!code.startsWith("import ") || code.equals("import java.util.Arrays;") || code.equals("import java.util.NoSuchElementException;"), code);
            rule(!code.contains("System.") || code.contains("System.arraycopy("), code);
            rule(!code.contains("throw new ") || THROWN.contains(code.replaceAll(".*throw new (\\w+)\\(\"[ \\w]*\"\\);.*", "$1")), code);
            boolean head = line.matches("( {4}| {8})[a-z].*\\(.*\\{") && !line.contains(" class ");
            if (head && !line.matches(" {8}(if|for|while|switch|do)\\b.*")) {
                begun = i;
                end = line.replaceAll("\\S.*", "") + "}";
            } else if (begun >= 0 && line.equals(end)) {
                rule(i - begun <= 60, "sixty lines from line " + (begun + 1));
                begun = -1;
            }
        }
    }

    private static void tell(HearthMoney x, String text) {
        x.end(0);
        for (int at = 0; at < text.length(); at += 20) {
            int[] n = new int[5];
            for (int i = 0; i < 20; i++) {
                n[i / 4] = n[i / 4] << 8 | (at + i < text.length() ? text.charAt(at + i) : 0);
            }
            x.feed(n[0], n[1], n[2], n[3], n[4]);
        }
        x.end(text.length());
    }

    private static String answerOf(HearthMoney x, String name, String written) throws IllegalAccessException {
        List<Object> given = new ArrayList<>();
        for (String one : written.isEmpty() ? new String[0] : written.split(", ")) {
            given.add(one.matches("true|false") ? (Object) Boolean.valueOf(one) : (Object) Integer.valueOf(one));
        }
        for (Method m : HearthMoney.class.getMethods()) {
            if (m.getName().equals(name) && m.getDeclaringClass() == HearthMoney.class) {
                try {
                    return String.valueOf(m.invoke(x, given.toArray()));
                } catch (java.lang.reflect.InvocationTargetException e) {
                    return "throws " + e.getCause().getClass().getSimpleName();
                }
            }
        }
        return "no such call";
    }

    /** README.md names each call, and what stands behind the calls of its example is what they answer. */
    private static void checkReadme() throws Exception {
        String readme = Files.readString(Path.of("README.md"));
        for (String head : FACE.strip().split("\n")) {
            String name = head.replaceAll("\\w+ (\\w+)\\(.*", "$1");
            rule(readme.contains("`" + name + "`"), "README.md names " + name);
        }
        var steps = java.util.regex.Pattern.compile("tell\\(x, \"(.*)\"\\);|x\\.(\\w+)\\((.*)\\); +// (.*)").matcher(readme);
        HearthMoney x = new HearthMoney();
        int calls = 0;
        while (steps.find()) {
            if (steps.group(1) != null) {
                tell(x, steps.group(1));
            } else {
                calls++;
                String answer = answerOf(x, steps.group(2), steps.group(3));
                rule(answer.equals(steps.group(4)), "README.md: " + steps.group() + ", but it is " + answer);
            }
        }
        rule(calls >= 15, "README.md has an example");
    }

    public static void main(String[] args) throws Exception {
        checkFace();
        checkSource();
        checkReadme();
        System.out.println(wrong == 0 ? "all rules are kept" : wrong + " rules are not kept");
        if (wrong != 0) {
            System.exit(1);
        }
    }
}
