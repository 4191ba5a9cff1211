import java.io.IOException;
import java.lang.reflect.Executable;
import java.lang.reflect.Field;
import java.lang.reflect.Modifier;
import java.nio.file.Files;
import java.nio.file.Path;
import java.util.ArrayDeque;
import java.util.ArrayList;
import java.util.Deque;
import java.util.List;
import java.util.Set;
import java.util.regex.Matcher;
import java.util.regex.Pattern;

/** What can be seen of LANGUAGE.md's rules in the class and in its text; each answer names the rule. */
public final class LanguageTest {
    private static final Path SOURCE = Path.of("src/main/java/SpinKernel.java");
    private static final int MOST_LINES = 60;
    private static final int MOST_PARAMETERS = 7;
    private static final int MOST_CLASSES = 12;
    private static final int MOST_FIELDS = 20;

    private static final Set<String> IMPORTS = Set.of("java.util.Arrays", "java.util.ArrayList",
        "java.util.List", "java.util.Iterator");
    private static final Set<String> LIBRARY = Set.of("Arrays.fill", "Arrays.copyOf", "Arrays.copyOfRange",
        "Math.max", "Math.min", "Math.abs", "Math.floorDiv", "Math.floorMod", "System.arraycopy");
    private static final Set<String> THROWN = Set.of("IllegalStateException", "IllegalArgumentException",
        "IndexOutOfBoundsException");
    private static final String[] RULED_OUT = {
        "2 ->", "2 ::", "6 \\bfinally\\b", "6 \\bsynchronized\\b", "6 \\bassert\\b", "6 \\bcatch\\b",
        "6 \\bequals\\b", "6 \\bhashCode\\b", "6 \\btoString\\b", "5 \\bstatic\\s*\\{", "13 \\bThread\\b",
        "13 \\bRandom\\b", "13 \\bcurrentTimeMillis\\b", "13 \\bnanoTime\\b", "3 \\bdouble\\b", "3 \\bfloat\\b",
    };

    public static void main(String[] args) throws IOException {
        String text = withoutComments(Files.readString(SOURCE));
        checkLibrary(text);
        checkRuledOut(text);
        checkThrows(text);
        checkObjectsMade(text);
        checkLengthOfMethods(text);
        List<Class<?>> classes = new ArrayList<>(List.of(SpinKernel.class.getDeclaredClasses()));
        classes.add(SpinKernel.class);
        Check.due("rule 11: too many classes", classes.size() > MOST_CLASSES ? 1 : 0, 0);
        for (Class<?> inspected : classes) {
            checkMembers(inspected);
        }
        Check.finish();
    }

    private static String withoutComments(String text) {
        return text.replaceAll("(?s)/\\*.*?\\*/", "").replaceAll("//[^\n]*", "");
    }

    private static List<String> found(String pattern, String text) {
        List<String> found = new ArrayList<>();
        Matcher matcher = Pattern.compile(pattern).matcher(text);
        while (matcher.find()) {
            found.add(matcher.group(matcher.groupCount()));
        }
        return found;
    }

    private static void allOf(String what, List<String> found, Set<String> allowed) {
        for (String one : found) {
            Check.due(what + " " + one, allowed.contains(one) ? 1 : 0, 1);
        }
    }

    private static void checkLibrary(String text) {
        Check.due("a package line", found("(?m)^package\\b", text).size(), 0);
        allOf("rule 4: import", found("(?m)^import (?:static )?([^;]+);", text), IMPORTS);
        allOf("rule 4: library",
            found("\\b((?:Arrays|Math|System|Integer|Long|Character|String|Objects)\\.\\w+)", text), LIBRARY);
        Check.due("rule 4: a package's name in the text", found("(?m)^(?!import).*\\bjavax?\\.", text).size(), 0);
    }

    private static void checkRuledOut(String text) {
        for (String rule : RULED_OUT) {
            String pattern = rule.substring(rule.indexOf(' ') + 1);
            Check.due("rule " + rule, found(pattern, text).size(), 0);
        }
    }

    private static void checkThrows(String text) {
        List<String> thrown = found("throw new (\\w+)\\(\\);", text);
        allOf("rule 6: thrown", thrown, THROWN);
        Check.due("rule 6: throws of other forms", found("\\bthrow\\b", text).size(), thrown.size());
    }

    /** Rule 12: all runs share one room, so what is made is made in constructors. */
    private static void checkObjectsMade(String text) {
        List<String> made = found("(?m)^.*(?<!throw )\\bnew \\w+.*$", text);
        for (String line : made) {
            boolean isField = line.matches("\\s*(private )?final [\\w\\[\\]]+ \\w+ = new .*");
            boolean isInConstructor = line.matches("\\s*(tasks\\[id\\]|rows\\[lock\\]|requests\\[i\\]) = new \\w+\\(\\);");
            Check.due("rule 12: made by a call:" + line, isField || isInConstructor ? 1 : 0, 1);
        }
    }

    /** Every block but a class's own is short: so is every method. */
    private static void checkLengthOfMethods(String text) {
        String[] lines = text.split("\n");
        Deque<Integer> open = new ArrayDeque<>();
        for (int i = 0; i < lines.length; i++) {
            for (char c : lines[i].toCharArray()) {
                if (c == '{') {
                    open.push(i);
                } else if (c == '}') {
                    int start = open.pop();
                    boolean isClass = lines[start].contains(" class ");
                    Check.due("rule 11: long:" + lines[start], !isClass && i - start >= MOST_LINES ? 1 : 0, 0);
                }
            }
        }
    }

    private static void checkMembers(Class<?> inspected) {
        int fields = 0;
        for (Field field : inspected.getDeclaredFields()) {
            boolean isStatic = Modifier.isStatic(field.getModifiers());
            fields += isStatic ? 0 : 1;
            Check.due("rule 5: static state " + field,
                isStatic && !Modifier.isFinal(field.getModifiers()) ? 1 : 0, 0);
        }
        Check.due("rule 11: too many fields of " + inspected, fields > MOST_FIELDS ? 1 : 0, 0);
        List<Executable> members = new ArrayList<>(List.of(inspected.getDeclaredMethods()));
        members.addAll(List.of(inspected.getDeclaredConstructors()));
        for (Executable member : members) {
            Check.due("rule 11: too many parameters of " + member,
                member.getParameterCount() > MOST_PARAMETERS ? 1 : 0, 0);
        }
    }
}
