import java.io.IOException;
import java.lang.reflect.Constructor;
import java.lang.reflect.Field;
import java.lang.reflect.Method;
import java.lang.reflect.Modifier;
import java.nio.file.Files;
import java.nio.file.Path;
import java.util.ArrayList;
import java.util.List;
import java.util.Set;
import java.util.TreeSet;
import java.util.regex.Matcher;
import java.util.regex.Pattern;

/** The rules of LANGUAGE.md that can be looked for in the file and in its classes; run from the project's directory. */
public final class SourceTest {
    private static final String FACE =
        "write int;wipe;fault;lay;islander int int;boat int int;wants int;leave int;by int int;falls int;milked int int;"
        + "lean int int;mind int int;hold int;weather int;undo;decides int;win int;fill;beds int;help int int;both int;"
        + "seen int int;forget;oars int;odds int int;asked int;months int int int;keep;back;count int";

    private static int wrong = 0;

    public static void main(String[] args) throws IOException {
        face();
        classes();
        String source = Files.readString(Path.of("src/main/java/LeavingVote.java"));
        signs(source);
        String code = source.replaceAll("(?s)/\\*.*?\\*/", " ").replaceAll("//[^\n]*", " ").replaceAll("\"[^\"]*\"", "\"\"");
        words(code);
        made(code);
        System.out.println(wrong == 0 ? "SourceTest: the rules looked for hold" : "SourceTest: " + wrong + " wrong");
        if (wrong != 0) {
            System.exit(1);
        }
    }

    private static void check(boolean holds, String what) {
        if (!holds) {
            wrong++;
            System.out.println(what);
        }
    }

    private static void face() {
        Set<String> due = new TreeSet<>(List.of(FACE.split(";")));
        Set<String> there = new TreeSet<>();
        for (Method method : LeavingVote.class.getDeclaredMethods()) {
            if (Modifier.isPrivate(method.getModifiers())) {
                continue;
            }
            StringBuilder text = new StringBuilder(method.getName());
            for (Class<?> type : method.getParameterTypes()) {
                text.append(' ').append(type.getName());
            }
            boolean plain = method.getModifiers() == Modifier.PUBLIC && method.getReturnType() == int.class;
            check(plain, "rule 1: " + method);
            there.add(text.toString());
        }
        check(there.equals(due), "rule 1: the face is " + there);
        check(LeavingVote.class.getModifiers() == (Modifier.PUBLIC | Modifier.FINAL), "rule 1: public and final");
        Constructor<?>[] constructors = LeavingVote.class.getDeclaredConstructors();
        check(constructors.length == 1 && constructors[0].getModifiers() == Modifier.PUBLIC
            && constructors[0].getParameterCount() == 0, "rule 1: the constructor");
        Set<String> constants = new TreeSet<>();
        for (Field field : LeavingVote.class.getDeclaredFields()) {
            if (!Modifier.isPrivate(field.getModifiers())) {
                constants.add(field.getName());
            }
        }
        check(constants.equals(Set.of("BAD", "NO", "FULL", "NONE")), "rule 1: the constants are " + constants);
    }

    private static void classes() {
        Set<String> names = new TreeSet<>();
        for (Method method : LeavingVote.class.getDeclaredMethods()) {
            if (Modifier.isPublic(method.getModifiers())) {
                names.add(method.getName());
            }
        }
        List<Class<?>> all = new ArrayList<>(List.of(LeavingVote.class.getDeclaredClasses()));
        check(all.size() < 12, "rule 11: too many classes");
        all.add(LeavingVote.class);
        for (Class<?> one : all) {
            check(one == LeavingVote.class || Modifier.isStatic(one.getModifiers()), "rule 2: " + one);
            int fields = 0;
            for (Field field : one.getDeclaredFields()) {
                boolean still = Modifier.isStatic(field.getModifiers());
                fields += still ? 0 : 1;
                check(!still || Modifier.isFinal(field.getModifiers()), "rule 5: " + field);
            }
            check(fields <= 20, "rule 11: fields of " + one);
            for (Method method : one.getDeclaredMethods()) {
                boolean open = Modifier.isPublic(method.getModifiers());
                check(one == LeavingVote.class && open || !names.contains(method.getName()), "rule 1: " + method);
                check(method.getParameterCount() <= 7, "rule 11: " + method);
            }
        }
    }

    private static void signs(String source) {
        for (int k = 0; k < source.length(); k++) {
            char c = source.charAt(k);
            check(c == '\n' || c >= 32 && c < 127, "rule 4: sign " + (int) c + " at " + k);
        }
    }

    private static void words(String code) {
        String[] forbidden = {
            "import", "package", "throw", "throws", "try", "catch", "finally", "synchronized", "assert", "native",
            "volatile", "var", "\\w*Exact", "System", "Object", "Random", "Thread", "Class", "equals", "hashCode", "toString",
        };
        for (String word : forbidden) {
            check(!Pattern.compile("\\b" + word + "\\b").matcher(code).find(), "rules 4, 6, 13: " + word);
        }
        check(!code.contains("->") && !code.contains("::"), "rule 2: a lambda or a method reference");
        check(!code.contains("@"), "rule 4: an annotation");
        Matcher library = Pattern.compile("\\b(Math|Integer|Long|Arrays|List|String)\\.(\\w+)").matcher(code);
        while (library.find()) {
            check(Set.of("Math.min", "Math.max", "Integer.bitCount").contains(library.group()), "rule 4: " + library.group());
        }
    }

    /** What is made, constructors make: a run's room is small. */
    private static void made(String code) {
        String head = "";
        for (String line : code.split("\n")) {
            String text = line.trim();
            if (text.endsWith(") {") && !text.matches("(\\} else )?(if|for|while|switch) .*")) {
                head = text;
            }
            boolean constructor = head.matches("(public )?[A-Z]\\w*\\([^)]*\\) \\{");
            check(constructor || !text.matches(".*\\bnew\\b.*"), "rule 12: made in a call: " + text);
        }
    }
}
