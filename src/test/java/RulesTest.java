import java.lang.reflect.Constructor;
import java.lang.reflect.Field;
import java.lang.reflect.Method;
import java.lang.reflect.Modifier;
import java.nio.file.Files;
import java.nio.file.Path;
import java.util.ArrayList;
import java.util.Arrays;
import java.util.List;
import java.util.Set;
import java.util.TreeSet;
import java.util.regex.Matcher;
import java.util.regex.Pattern;

/** What of LANGUAGE.md can be looked up: the face, and what the source may not hold. */
public final class RulesTest {
    private static final Checks CHECKS = new Checks("RulesTest");
    private static final String[] FACE = {
        "int write(int)", "int erase()", "int fault()", "int patch()", "int cell(int,int)", "int player(int,int)",
        "int debt(int,int)", "int as(int,int)", "int shoot(int,int,int)", "int pay(int,int,int)", "int undo()",
        "int keep(int)", "int back(int)", "int stop(int,int)", "int odds(int,int,int)", "int mean(int,int)",
        "int best(int,int)", "int two(int)", "int seen(int,int)", "int forget()", "int slopes(int)",
        "long ruin(int,int,int,int)", "int netted()", "int ring(int)", "int poor()", "int rain(int,int,int,int)",
        "int count(int)",
    };
    private static final String[] BANNED = {
        "\\bthrows?\\b", "\\btry\\b", "\\bcatch\\b", "\\bsynchronized\\b", "\\bassert\\b", "->", "::", "@\\w+",
        "\\bpackage\\b", "\\bprotected\\b", "\\bvar\\b", "\\bObject\\b", "\\bSystem\\.(?!arraycopy)", "Exact\\b",
        "\\bstatic\\s*\\{", "\\.(hashCode|toString|getClass)\\b", "\\?\\s*>",
    };

    public static void main(String[] args) throws Exception {
        face();
        names();
        for (Class<?> each : classes()) {
            members(each);
        }
        source(Files.readString(Path.of("src/main/java/ForKeeps.java")));
        CHECKS.end();
    }

    private static List<Class<?>> classes() {
        List<Class<?>> all = new ArrayList<>(Arrays.asList(ForKeeps.class.getDeclaredClasses()));
        CHECKS.isTrue("rule 11: at most twelve classes", all.size() < 12);
        return all;
    }

    private static void face() {
        Set<String> open = new TreeSet<>();
        for (Method method : ForKeeps.class.getDeclaredMethods()) {
            if (!Modifier.isPrivate(method.getModifiers()) && !method.isSynthetic()) {
                CHECKS.isTrue("rule 1: " + method + " is public", Modifier.isPublic(method.getModifiers()));
                StringBuilder types = new StringBuilder();
                for (Class<?> type : method.getParameterTypes()) {
                    types.append(types.length() == 0 ? "" : ",").append(type.getName());
                }
                open.add(method.getReturnType() + " " + method.getName() + "(" + types + ")");
            }
        }
        CHECKS.isTrue("rule 1: the face is " + open, open.equals(new TreeSet<>(Arrays.asList(FACE))));
        Set<String> constants = new TreeSet<>();
        for (Field field : ForKeeps.class.getDeclaredFields()) {
            if (!Modifier.isPrivate(field.getModifiers())) {
                constants.add(Modifier.toString(field.getModifiers()) + " " + field.getName());
            }
        }
        CHECKS.isTrue("rule 1: the constants are " + constants, constants.equals(new TreeSet<>(Arrays.asList(
            "public static final NONE", "public static final UNKNOWN", "public static final OUTSIDE",
            "public static final NOT", "public static final FULL"))));
        Constructor<?>[] made = ForKeeps.class.getDeclaredConstructors();
        CHECKS.due("rule 1: constructors", made.length, 1);
        CHECKS.isTrue("rule 1: the constructor is public", Modifier.isPublic(made[0].getModifiers()));
        CHECKS.isTrue("rule 1: the class is final", Modifier.isFinal(ForKeeps.class.getModifiers()));
        members(ForKeeps.class);
    }

    private static void names() {
        Set<String> open = new TreeSet<>();
        for (Method method : ForKeeps.class.getMethods()) {
            open.add(method.getName());
        }
        List<Class<?>> all = classes();
        all.add(ForKeeps.class);
        for (Class<?> each : all) {
            for (Method method : each.getDeclaredMethods()) {
                boolean isOpen = Modifier.isPublic(method.getModifiers());
                CHECKS.isTrue("rule 1: the name of " + method, isOpen || !open.contains(method.getName()));
            }
        }
    }

    private static void members(Class<?> each) {
        boolean isNested = each != ForKeeps.class;
        CHECKS.isTrue("rule 2: " + each + " is static", !isNested || Modifier.isStatic(each.getModifiers()));
        int own = 0;
        for (Field field : each.getDeclaredFields()) {
            if (!Modifier.isStatic(field.getModifiers())) {
                own++;
            } else {
                CHECKS.isTrue("rule 5: " + field + " is final", Modifier.isFinal(field.getModifiers()));
                Class<?> type = field.getType();
                CHECKS.isTrue("rule 5: " + field, type.isPrimitive() || type == String.class || type == int[].class);
            }
        }
        CHECKS.isTrue("rule 11: fields of " + each, own <= 20);
        for (Method method : each.getDeclaredMethods()) {
            CHECKS.isTrue("rule 11: parameters of " + method, method.getParameterCount() <= 7);
        }
    }

    private static void source(String source) {
        CHECKS.isTrue("rule 4: signs below 128", source.chars().allMatch(sign -> sign < 128));
        String code = source.replaceAll("(?s)/\\*.*?\\*/", "").replaceAll("//.*", "")
            .replaceAll("'(\\\\.|[^'])'", "' '").replaceAll("\"[^\"]*\"", "\"\"");
        for (String banned : BANNED) {
            Matcher found = Pattern.compile(banned).matcher(code);
            CHECKS.isTrue("banned in the source: " + banned, !found.find());
        }
        Matcher imports = Pattern.compile("import\\s+([\\w.]+)").matcher(code);
        while (imports.find()) {
            CHECKS.isTrue("rule 4: " + imports.group(1), imports.group(1).equals("java.util.Arrays"));
        }
        lengths(source.split("\n"));
    }

    /** A method starts at a line that ends with "{" behind ")" and ends where its own depth does. */
    private static void lengths(String[] lines) {
        for (int i = 0; i < lines.length; i++) {
            if (lines[i].matches(" {4}( {4})?[\\w\\[\\] ]+\\([^()]*\\) \\{")) {
                String indent = lines[i].replaceAll("\\S.*", "");
                int end = i;
                while (!lines[end].equals(indent + "}")) {
                    end++;
                }
                CHECKS.isTrue("rule 11: length of " + lines[i].trim(), end - i < 60);
            }
        }
    }
}
