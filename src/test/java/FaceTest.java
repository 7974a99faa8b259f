import java.io.IOException;
import java.lang.reflect.Constructor;
import java.lang.reflect.Field;
import java.lang.reflect.Method;
import java.lang.reflect.Modifier;
import java.nio.file.Files;
import java.nio.file.Path;
import java.util.Set;
import java.util.TreeSet;
import java.util.regex.Pattern;

/** The public face of the document, and those rules of LANGUAGE.md that can be seen from outside. */
public final class FaceTest {
    private static final Check CHECK = new Check("FaceTest");

    private static final String[] FACE = {
        "int about(int, int)", "int asked(int, int)", "int came(int, int)", "int count(int)",
        "int difference(int)", "int fault()", "int fee(int, int, int, int, int)",
        "int feed(int, int, int, int, int)", "int force(int)", "int homes(int)", "int known(int, int)",
        "boolean lost(int, int)", "int paper(int, int)", "int pass(int)", "int port(int)",
        "int seal(int, int, int, int)", "int stamps(int, int)", "int stock(int, int, int)", "int sum(int, int)",
        "int tariff(int)", "int trouble()", "int under(int)", "int unlike(int)", "int where()"
    };

    public static void main(String[] args) throws IOException {
        face();
        members(ConsulDesk.class);
        for (Class<?> inside : ConsulDesk.class.getDeclaredClasses()) {
            CHECK.due(inside + " is static", Modifier.isStatic(inside.getModifiers()), true);
            members(inside);
        }
        source();
        CHECK.end();
    }

    private static void face() {
        Set<String> want = new TreeSet<>(Set.of(FACE));
        Set<String> got = new TreeSet<>();
        Set<String> names = new TreeSet<>();
        for (Method method : ConsulDesk.class.getDeclaredMethods()) {
            if (!Modifier.isPrivate(method.getModifiers())) {
                got.add(said(method));
                names.add(method.getName());
            }
        }
        CHECK.due("the face is " + got, got.equals(want), true);
        CHECK.due("the class is public and final",
            Modifier.isPublic(ConsulDesk.class.getModifiers()) && Modifier.isFinal(ConsulDesk.class.getModifiers()), true);
        Constructor<?>[] made = ConsulDesk.class.getDeclaredConstructors();
        CHECK.due("one public constructor of nothing",
            made.length == 1 && made[0].getParameterCount() == 0 && Modifier.isPublic(made[0].getModifiers()), true);
        CHECK.due("NONE", ConsulDesk.NONE, -1);
        CHECK.due("NO_FEE", ConsulDesk.NO_FEE, -10000);
        for (Field field : ConsulDesk.class.getDeclaredFields()) {
            boolean constant = field.getName().equals("NONE") || field.getName().equals("NO_FEE");
            CHECK.due(field + " is public", Modifier.isPublic(field.getModifiers()), constant);
            CHECK.due(field + " is private", Modifier.isPrivate(field.getModifiers()), !constant);
        }
        for (Method method : ConsulDesk.class.getDeclaredMethods()) {
            if (Modifier.isPrivate(method.getModifiers())) {
                CHECK.due(method + " bears a public name", names.contains(method.getName()), false);
            }
        }
        for (Class<?> inside : ConsulDesk.class.getDeclaredClasses()) {
            for (Method method : inside.getDeclaredMethods()) {
                CHECK.due(method + " bears a public name", names.contains(method.getName()), false);
            }
        }
    }

    private static String said(Method method) {
        StringBuilder said = new StringBuilder(method.getReturnType() + " " + method.getName() + "(");
        for (Class<?> type : method.getParameterTypes()) {
            said.append(said.charAt(said.length() - 1) == '(' ? "" : ", ").append(type);
        }
        return said.append(")").toString();
    }

    private static void members(Class<?> type) {
        int fields = 0;
        for (Field field : type.getDeclaredFields()) {
            boolean isStatic = Modifier.isStatic(field.getModifiers());
            fields += isStatic ? 0 : 1;
            CHECK.due(field + " is static and changes", isStatic && !Modifier.isFinal(field.getModifiers()), false);
        }
        CHECK.due(type + " has more than 20 fields", fields > 20, false);
        for (Method method : type.getDeclaredMethods()) {
            CHECK.due(method + " has more than 7 parameters", method.getParameterCount() > 7, false);
        }
    }

    private static void source() throws IOException {
        String source = Files.readString(Path.of("src/main/java/ConsulDesk.java"));
        String bare = source.replaceAll("(?s)/\\*.*?\\*/", "").replaceAll("//[^\n]*", "")
            .replaceAll("\"[^\"\n]*\"", "\"\"");
        String[] barred = {"throw", "throws", "try", "catch", "finally", "synchronized", "assert", "package", "import",
            "native", "volatile", "transient", "var", "float", "double", "System\\.out", "Exact", "hashCode",
            "toString", "equals", "record", "yield"};
        for (String word : barred) {
            CHECK.due("the word " + word, Pattern.compile("\\b" + word + "\\b").matcher(bare).find(), false);
        }
        CHECK.due("a lambda or arrow", bare.contains("->"), false);
        CHECK.due("a method reference", bare.contains("::"), false);
        CHECK.due("an annotation", bare.contains("@"), false);
        CHECK.due("signs outside 1 to 127", source.chars().allMatch(c -> c > 0 && c < 128), true);
        CHECK.due("at most twelve classes", ConsulDesk.class.getDeclaredClasses().length < 12, true);
    }
}
