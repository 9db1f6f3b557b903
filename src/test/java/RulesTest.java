import java.lang.reflect.Constructor;
import java.lang.reflect.Field;
import java.lang.reflect.Method;
import java.lang.reflect.Modifier;
import java.nio.charset.StandardCharsets;
import java.nio.file.Files;
import java.nio.file.Path;
import java.util.Arrays;
import java.util.Set;
import java.util.TreeSet;
import java.util.regex.Matcher;
import java.util.regex.Pattern;

/** The rules of ../shared/LANGUAGE.md, as far as a look at the file and at the face can tell. */
public final class RulesTest {
    private static final String[] FACE = {
        "int item(int,int)", "int itemIs(int,int)", "int become(int,int)", "int as(int,int)", "int truth(int,int)",
        "int shift(int,int)", "int clock(int,int)", "int feed(long,int)", "int text(int)", "int untell(int)",
        "int law(int,int,int,int)", "int air(int)", "int breaks(int)", "int drop(int)", "int loose(int)", "int anew()",
        "int seed(int)", "int over()", "int fits()", "int spare()", "int tuned()", "int plan(int)", "int begins(int,int)",
        "int drops(int)", "int row(int)", "long odds(int)", "int sums(int,int)", "int voice(int,int,int)", "int body(int)",
        "int sheet(int,int,int)", "int put(int,int,int)", "int move(int,int,int,int,int)", "int truths(int)",
        "int judge(int)", "int image()", "int restore()", "int tell(int)", "int check()", "int count(int)", "int told(int)",
    };
    private static final String[] FORBIDDEN = {
        "throw", "throws", "try", "catch", "finally", "synchronized", "assert", "import", "package", "protected", "volatile",
        "native", "Object", "System.out", "Exact", "float", "NaN", "equals", "hashCode", "toString", "goto", "transient",
    };
    private static final int MOST_LINES = 60;

    private static final Set<String> PUBLIC_NAMES = new TreeSet<>();

    public static void main(String[] args) throws Exception {
        face();
        Class<?>[] inside = OffOnTheSecond.class.getDeclaredClasses();
        Checks.holds("at most twelve classes", inside.length + 1 <= 12);
        members(OffOnTheSecond.class);
        for (Class<?> one : inside) {
            Checks.holds(one + " is static", Modifier.isStatic(one.getModifiers()));
            Checks.holds(one + " isn't public", !Modifier.isPublic(one.getModifiers()));
            members(one);
        }
        String path = args.length > 0 ? args[0] : "src/main/java/OffOnTheSecond.java";
        source(new String(Files.readAllBytes(Path.of(path)), StandardCharsets.ISO_8859_1));
        Checks.end();
    }

    private static void face() {
        Set<String> got = new TreeSet<>();
        for (Method method : OffOnTheSecond.class.getDeclaredMethods()) {
            if (!Modifier.isPrivate(method.getModifiers())) {
                String types = Arrays.toString(Arrays.stream(method.getParameterTypes()).map(Class::getName).toArray());
                got.add(method.getReturnType() + " " + method.getName() + types.replace('[', '(').replace(']', ')').replace(" ", ""));
                PUBLIC_NAMES.add(method.getName());
                Checks.due(method + "'s modifiers", method.getModifiers(), Modifier.PUBLIC);
            }
        }
        Checks.holds("the face is " + got, got.equals(new TreeSet<>(Arrays.asList(FACE))));
        Constructor<?>[] constructors = OffOnTheSecond.class.getDeclaredConstructors();
        Checks.due("one constructor", constructors.length, 1);
        Checks.due("without parameters", constructors[0].getParameterCount(), 0);
        Checks.due("public final", OffOnTheSecond.class.getModifiers(), Modifier.PUBLIC | Modifier.FINAL);
        for (Field field : OffOnTheSecond.class.getDeclaredFields()) {
            Checks.holds(field + " is private", Modifier.isPrivate(field.getModifiers()));
        }
    }

    private static void members(Class<?> one) {
        int fields = 0;
        for (Field field : one.getDeclaredFields()) {
            boolean isStatic = Modifier.isStatic(field.getModifiers());
            Checks.holds(field + " is final if static", !isStatic || Modifier.isFinal(field.getModifiers()));
            fields += isStatic ? 0 : 1;
        }
        Checks.holds(one + " has at most twenty fields", fields <= 20);
        for (Method method : one.getDeclaredMethods()) {
            Checks.holds(method + " takes at most seven", method.getParameterCount() <= 7);
            Checks.holds(method + " isn't named as the face", one == OffOnTheSecond.class && Modifier.isPublic(method.getModifiers())
                || !PUBLIC_NAMES.contains(method.getName()));
        }
    }

    private static void source(String text) {
        String code = text.replaceAll("(?s)/\\*.*?\\*/", "").replaceAll("//[^\n]*", "");
        for (String word : FORBIDDEN) {
            Checks.holds("no " + word, !Pattern.compile("\\b" + Pattern.quote(word) + "\\b").matcher(code).find());
        }
        Checks.holds("no lambda", !code.contains("->"));
        Checks.holds("no method reference", !code.contains("::"));
        Checks.holds("no texts joined", !code.contains("\""));
        Checks.holds("plain signs", text.chars().allMatch(sign -> sign < 127));
        Matcher made = Pattern.compile("(?m)^.*\\bnew\\b.*$").matcher(code);
        while (made.find()) {
            String line = made.group().trim();
            boolean atFirst = line.matches("(private )?final [A-Za-z\\[\\]]+ [a-zA-Z]+ = new .*") || line.startsWith("cells = new int[")
                || line.equals("sheets[i] = new Sheet();");
            Checks.holds("made only at first: " + line, atFirst);
        }
        shortMethods(code);
    }

    private static void shortMethods(String code) {
        int start = 0;
        int at = 0;
        for (String line : code.split("\n")) {
            at++;
            if (line.matches(" {4}( {4})?[a-zA-Z].*\\) \\{")) {
                start = at;
            }
            if (line.matches(" {4}( {4})?\\}")) {
                Checks.holds("a short method ends in line " + at, start == 0 || at - start <= MOST_LINES);
                start = 0;
            }
        }
    }
}
