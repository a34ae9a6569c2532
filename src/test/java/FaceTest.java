import java.io.IOException;
import java.lang.reflect.Constructor;
import java.lang.reflect.Field;
import java.lang.reflect.Method;
import java.lang.reflect.Modifier;
import java.nio.charset.StandardCharsets;
import java.nio.file.Files;
import java.nio.file.Path;
import java.util.Set;
import java.util.TreeSet;
import java.util.regex.Matcher;
import java.util.regex.Pattern;

/** The public face is the document's and no more, and the source keeps to what LANGUAGE.md leaves of Java. */
public final class FaceTest {
    private static final Check CHECK = new Check();
    private static final String[] FACE = {
        "boolean plug(int,int)", "int unplug(int)", "boolean broken(int,boolean)", "boolean turn(int,boolean)",
        "boolean watch(int)", "boolean odds(int)", "int state(int)", "boolean table(int,int,int,boolean)",
        "boolean hold(int,boolean)", "int tick(int)", "int feed(int,int,int,int,int)", "boolean end(int)",
        "int send(int)", "int text()", "int fault(int)", "int time(int)", "int socket(int,int)",
        "int buffer(int,int)", "int input(int,int)", "int router(int,int)", "int tableOf(int,int)",
        "int endOf(int,int)", "int packet(int,int,int)", "int byteOf(int,int,int)", "int way(int,int,int)",
        "int spread(int,int)", "int loops(int,int)", "int log(int,int)", "int lasts(int,int)", "int sound(int)",
        "boolean image(boolean)", "int look(int)",
    };
    private static final String[] FORBIDDEN = {
        "\\bthrow\\b", "\\bthrows\\b", "\\btry\\b", "\\bcatch\\b", "\\bsynchronized\\b", "\\bassert\\b", "->", "::",
        "\\bException\\b", "\\bprotected\\b", "\\bpackage\\b", "\\bSystem\\.(?!arraycopy\\b)", "\\bObject\\b",
        "\\bfloat\\b", "\\bdouble\\b", "\\w+Exact\\b", "\\bhashCode\\b", "\\btoString\\b", "\\bwhile \\(true\\)",
        "[^\\x00-\\x7f]",
    };

    public static void main(String[] args) throws IOException {
        face();
        members(SpaceLinks.class);
        for (Class<?> inside : SpaceLinks.class.getDeclaredClasses()) {
            CHECK.due(inside + " is static", true, Modifier.isStatic(inside.getModifiers()));
            CHECK.due(inside + " is private", true, Modifier.isPrivate(inside.getModifiers()));
            members(inside);
            ownNames(inside);
        }
        CHECK.due("classes", true, SpaceLinks.class.getDeclaredClasses().length < 12);
        source();
        CHECK.finish();
    }

    private static void face() {
        Set<String> due = new TreeSet<>(Set.of(FACE));
        Set<String> names = new TreeSet<>();
        for (String line : FACE) {
            names.add(line.substring(line.indexOf(' ') + 1, line.indexOf('(')));
        }
        for (Method method : SpaceLinks.class.getDeclaredMethods()) {
            if (Modifier.isPublic(method.getModifiers())) {
                String line = method.toGenericString().replace("public ", "").replace("SpaceLinks.", "");
                CHECK.due("a method of the document: " + line, true, due.remove(line));
            } else {
                CHECK.due(method + " is private", true, Modifier.isPrivate(method.getModifiers()));
                CHECK.due(method + " has a name of its own", false, names.contains(method.getName()));
            }
        }
        CHECK.due("methods that are missing " + due, 0, due.size());
        for (Constructor<?> constructor : SpaceLinks.class.getDeclaredConstructors()) {
            CHECK.due("a public constructor without parameters", true,
                    Modifier.isPublic(constructor.getModifiers()) && constructor.getParameterCount() == 0);
        }
        for (Field field : SpaceLinks.class.getDeclaredFields()) {
            CHECK.due(field + ": only NONE is seen", !field.getName().equals("NONE"),
                    Modifier.isPrivate(field.getModifiers()));
        }
        CHECK.due("final", true, Modifier.isFinal(SpaceLinks.class.getModifiers()));
    }

    /** No method of a class inside has the name of one of the face. */
    private static void ownNames(Class<?> inside) {
        for (Method method : inside.getDeclaredMethods()) {
            for (String line : FACE) {
                CHECK.due(method + " has a name of its own", false, line.contains(" " + method.getName() + "("));
            }
        }
    }

    private static void members(Class<?> one) {
        int fields = 0;
        for (Field field : one.getDeclaredFields()) {
            if (Modifier.isStatic(field.getModifiers())) {
                CHECK.due(field + " is final", true, Modifier.isFinal(field.getModifiers()));
            } else {
                fields++;
            }
        }
        CHECK.due("fields of " + one, true, fields <= 20);
        for (Method method : one.getDeclaredMethods()) {
            CHECK.due("parameters of " + method, true, method.getParameterCount() <= 7);
        }
    }

    private static void source() throws IOException {
        String text = Files.readString(Path.of("src/main/java/SpaceLinks.java"), StandardCharsets.ISO_8859_1);
        String code = text.replaceAll("(?s)/\\*.*?\\*/", "").replaceAll("//[^\n]*", "");
        for (String pattern : FORBIDDEN) {
            Matcher matcher = Pattern.compile(pattern).matcher(code);
            CHECK.due("the source has no " + pattern, false, matcher.find());
        }
        Matcher imports = Pattern.compile("import ([\\w.*]+);").matcher(code);
        while (imports.find()) {
            CHECK.due("import of " + imports.group(1), true, imports.group(1).equals("java.util.Arrays"));
        }
    }
}
