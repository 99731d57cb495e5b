import java.io.IOException;
import java.lang.reflect.Field;
import java.lang.reflect.Method;
import java.lang.reflect.Modifier;
import java.nio.file.Files;
import java.nio.file.Path;
import java.util.ArrayList;
import java.util.Arrays;
import java.util.List;
import java.util.TreeSet;
import java.util.regex.Matcher;
import java.util.regex.Pattern;

/** The document's face, and those rules of LANGUAGE.md that can be seen in the source or the class. */
public final class LanguageTest {
    private static final Path SOURCE = Path.of("src/main/java/FurPosts.java");
    private static final String[] FORBIDDEN = {
        "\\bthrow\\b", "\\bthrows\\b", "\\btry\\b", "\\bcatch\\b", "\\bsynchronized\\b", "\\bassert\\b", "::",
        "(?m)^(?!\\s*(case|default)\\b).*->", "\\bpackage\\b", "\\bstatic\\s*\\{", "Exact\\b", "\\bHashMap\\b",
        "\\bRandom\\b", "\\bThread\\b", "currentTimeMillis", "nanoTime",
    };
    private static final String[] IMPORTS = {
        "java.util.Arrays", "java.util.ArrayList", "java.util.List", "java.util.Iterator",
    };
    private static final int LONGEST_METHOD = 60;
    private static final int MOST_PARAMETERS = 7;
    private static final int MOST_CLASSES = 12;
    private static final int MOST_FIELDS = 20;

    private static final Document DOCUMENT = new Document();
    private static final Check CHECK = new Check("LanguageTest");

    public static void main(String[] args) throws IOException {
        face();
        insides();
        source(Files.readString(SOURCE));
        CHECK.end();
    }

    private static void face() {
        CHECK.due("public final", FurPosts.class.getModifiers(), Modifier.PUBLIC | Modifier.FINAL);
        CHECK.due("constructors", FurPosts.class.getDeclaredConstructors().length, 1);
        CHECK.due("public constructors", FurPosts.class.getConstructors().length, 1);
        TreeSet<String> faced = new TreeSet<>();
        TreeSet<String> names = new TreeSet<>();
        for (String method : DOCUMENT.methods()) {
            faced.add(method.replaceAll("(\\w+) \\w+(?=[,)])", "$1"));
            names.add(method.replaceAll("\\w+ (\\w+)\\(.*", "$1"));
        }
        int publics = 0;
        for (Method m : FurPosts.class.getDeclaredMethods()) {
            boolean isPublic = Modifier.isPublic(m.getModifiers());
            publics += isPublic ? 1 : 0;
            CHECK.due("the face has " + told(m), faced.contains(told(m)), isPublic);
            CHECK.due("public or private: " + told(m), isPublic || Modifier.isPrivate(m.getModifiers()), true);
            CHECK.due("no private method has a public one's name: " + told(m), names.contains(m.getName()), isPublic);
        }
        CHECK.due("methods of the document's face", faced.size(), 26);
        CHECK.due("methods of the class's face", publics, faced.size());
        for (Field f : FurPosts.class.getDeclaredFields()) {
            boolean isNone = f.getName().equals("NONE");
            CHECK.due("visible: " + f, Modifier.isPublic(f.getModifiers()), isNone);
            CHECK.due("private: " + f, Modifier.isPrivate(f.getModifiers()), !isNone);
        }
    }

    private static String told(Method m) {
        List<String> types = new ArrayList<>();
        for (Class<?> type : m.getParameterTypes()) {
            types.add(type.getSimpleName());
        }
        return m.getReturnType().getSimpleName() + " " + m.getName() + "(" + String.join(", ", types) + ")";
    }

    private static void insides() {
        List<Class<?>> classes = new ArrayList<>(Arrays.asList(FurPosts.class.getDeclaredClasses()));
        CHECK.due("not too many classes", classes.size() < MOST_CLASSES, true);
        for (Class<?> inside : classes) {
            CHECK.due("static: " + inside, Modifier.isStatic(inside.getModifiers()), true);
            CHECK.due("not public: " + inside, Modifier.isPublic(inside.getModifiers()), false);
            CHECK.due("not protected: " + inside, Modifier.isProtected(inside.getModifiers()), false);
            CHECK.due("no class in it: " + inside, inside.getDeclaredClasses().length, 0);
        }
        classes.add(FurPosts.class);
        for (Class<?> each : classes) {
            int own = 0;
            for (Field f : each.getDeclaredFields()) {
                own += Modifier.isStatic(f.getModifiers()) ? 0 : 1;
                boolean changes = Modifier.isStatic(f.getModifiers()) && !Modifier.isFinal(f.getModifiers());
                CHECK.due("no static state: " + f, changes, false);
            }
            CHECK.due("not too many fields: " + each, own <= MOST_FIELDS, true);
            for (Method m : each.getDeclaredMethods()) {
                CHECK.due("not too many parameters: " + m, m.getParameterCount() <= MOST_PARAMETERS, true);
            }
        }
    }

    private static void source(String text) {
        for (String line : DOCUMENT.face()) {
            boolean isConstant = line.contains("=");
            CHECK.due("in the source: " + line, text.contains("\n    " + line + (isConstant ? ";" : " {")), true);
        }
        String code = text.replaceAll("(?s)/\\*.*?\\*/", "").replaceAll("//[^\n]*", "").replaceAll("\"[^\"\n]*\"", "");
        for (String forbidden : FORBIDDEN) {
            CHECK.due("not in the source: " + forbidden, Pattern.compile(forbidden).matcher(code).find(), false);
        }
        Matcher imports = Pattern.compile("import\\s+([\\w.*]+);").matcher(code);
        while (imports.find()) {
            CHECK.due("import " + imports.group(1), Arrays.asList(IMPORTS).contains(imports.group(1)), true);
        }
        int start = 0;
        String[] lines = text.split("\n");
        for (int i = 0; i < lines.length; i++) {
            CHECK.due("signs of line " + (i + 1), lines[i].chars().allMatch(c -> c >= 32 && c < 127), true);
            if (lines[i].matches(" {4}(    )?\\S.*\\{")) {
                start = i;
            }
            boolean ends = lines[i].matches(" {4}(    )?}");
            CHECK.due("length of what ends at line " + (i + 1), !ends || i - start <= LONGEST_METHOD, true);
        }
    }
}
