import java.io.IOException;
import java.lang.reflect.Method;
import java.nio.file.Files;
import java.nio.file.Path;
import java.util.ArrayList;
import java.util.List;
import java.util.Map;
import java.util.Set;
import java.util.TreeMap;
import java.util.TreeSet;
import java.util.regex.Matcher;
import java.util.regex.Pattern;

/**
 * The rules of LANGUAGE.md on methods, read from the program's text: who calls whom is told by names alone,
 * so that two methods of one name count as one that calls what both do.
 */
public final class FormTest {
    private static final Check CHECK = new Check("FormTest");
    private static final Pattern HEAD = Pattern.compile("^ +((?:[\\w\\[\\]]+ )*)(\\w+)\\([^;]*\\) \\{$");
    private static final Pattern CALLED = Pattern.compile("\\b(\\w+)\\(");

    private static final Map<String, String> HEADS = new TreeMap<>();
    private static final Map<String, Set<String>> CALLS = new TreeMap<>();

    public static void main(String[] args) throws IOException {
        CHECK.of("rule 11", "Methods stay short (some sixty lines)");
        List<String> lines = Files.readAllLines(Path.of("src/main/java/ConsulDesk.java"));
        for (int i = 0; i < lines.size(); i++) {
            Matcher head = HEAD.matcher(lines.get(i));
            if (isMethod(head)) {
                readMethod(lines, i, head);
            }
        }
        allWereRead();
        CHECK.of("rule 8", "a private static method that calls itself");
        callsOfItself();
        CHECK.of("rule 11", "calls that are no recursion go at most eight deep");
        for (String name : HEADS.keySet()) {
            CHECK.due(name + " goes deeper than 8", depth(name, new TreeSet<>()) > 8, false);
        }
        CHECK.end();
    }

    /** A method that is written in another form would be passed over. */
    private static void allWereRead() {
        List<Class<?>> types = new ArrayList<>(List.of(ConsulDesk.class.getDeclaredClasses()));
        types.add(ConsulDesk.class);
        for (Class<?> type : types) {
            for (Method method : type.getDeclaredMethods()) {
                CHECK.due(method + " was read", HEADS.containsKey(method.getName()), true);
            }
        }
    }

    /** A head has a modifier or a type ahead of the name; "if (..) {" and its like have none. */
    private static boolean isMethod(Matcher head) {
        return head.matches() && !head.group(1).isEmpty() && !head.group(1).startsWith("else")
            && !head.group(1).contains("class");
    }

    private static void readMethod(List<String> lines, int from, Matcher head) {
        String indent = lines.get(from).replaceAll("\\S.*", "");
        String name = head.group(2);
        HEADS.merge(name, head.group(1), (one, other) -> one + "| " + other);
        int to = from + 1;
        while (!lines.get(to).equals(indent + "}")) {
            Matcher called = CALLED.matcher(lines.get(to).replaceAll("//.*", "").replaceAll("\\bnew \\w+\\(", "("));
            while (called.find()) {
                CALLS.computeIfAbsent(name, none -> new TreeSet<>()).add(called.group(1));
            }
            to++;
        }
        CHECK.due(name + " has more than sixty lines", to - from + 1 > 60, false);
    }

    private static Set<String> callsOf(String name) {
        Set<String> own = new TreeSet<>(CALLS.getOrDefault(name, Set.of()));
        own.retainAll(HEADS.keySet());
        return own;
    }

    private static void callsOfItself() {
        for (String name : HEADS.keySet()) {
            if (callsOf(name).contains(name)) {
                CHECK.due(name + " calls itself and is " + HEADS.get(name),
                    HEADS.get(name).startsWith("private static "), true);
            }
        }
    }

    /** How many calls stand open at most, a call of itself left out; a ring of calls is far too deep. */
    private static int depth(String name, Set<String> open) {
        if (!open.add(name)) {
            return 1000;
        }
        int most = 0;
        for (String called : callsOf(name)) {
            if (!called.equals(name)) {
                most = Math.max(most, depth(called, open));
            }
        }
        open.remove(name);
        return most + 1;
    }
}
