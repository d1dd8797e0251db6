import java.io.IOException;
import java.lang.reflect.Constructor;
import java.lang.reflect.Field;
import java.lang.reflect.Method;
import java.lang.reflect.Modifier;
import java.nio.file.Files;
import java.nio.file.Path;
import java.util.ArrayList;
import java.util.Collections;
import java.util.List;
import java.util.Set;
import java.util.TreeSet;
import java.util.regex.Matcher;
import java.util.regex.Pattern;

/** The face is the document's, and the source keeps to those rules of LANGUAGE.md that can be seen at a glance. */
public final class FaceTest {
    private static final String SOURCE = "src/main/java/NeedNotJoin.java";
    private static final String[] FACE = {
        "boolean digit(int,int,int,int,int)", "boolean end(int)", "boolean image(boolean)",
        "boolean map(int,int,int)", "boolean take(int,int,int,int)", "boolean turn(int,int,int)",
        "int carry(int,int)", "int cube(int,int,int,int)", "int fano(int,int,int,int,int)", "int fault(int)",
        "int feed(int,int,int,int,int)", "int isotopes(int,int)", "int list(int,int,int)", "int look(int)",
        "int of(int,int)", "int parted(int,int)", "int plane(int,int,int,int)", "int powers(int,int)",
        "int product(int,int,int)", "int quotient(int,int,int,boolean)", "int ranks(int,int,int)",
        "int same(int,int)", "int span(int,int,int)", "int text(int)", "int undo(boolean)",
        "int unital(int,int,int)"};
    private static final String[] FORBIDDEN = {"\\bimport\\b", "\\bpackage\\b", "->", "::", "\\bcatch\\b", "\\btry\\b",
        "\\bthrow\\b", "\\bfinally\\b", "\\bsynchronized\\b", "\\bassert\\b", "\\bnative\\b", "\\bSystem\\.(?!arraycopy)",
        "\\bThread\\b", "\\bRandom\\b", "Exact\\(", "\\bdouble\\b", "\\bfloat\\b", "\\[\\]\\[\\]\\[\\]", "@",
        "\\bstatic\\s*\\{", "[^\\x00-\\x7f]"};

    private FaceTest() {
    }

    public static void main(String[] args) throws IOException {
        face();
        nested();
        source(Files.readString(Path.of(SOURCE)));
        Due.end();
    }

    private static void face() {
        Class<NeedNotJoin> type = NeedNotJoin.class;
        Due.is("public and final", type.getModifiers(), Modifier.PUBLIC | Modifier.FINAL);
        List<String> open = new ArrayList<>();
        Set<String> names = new TreeSet<>();
        for (Method method : type.getDeclaredMethods()) {
            if (Modifier.isPublic(method.getModifiers())) {
                open.add(told(method));
                names.add(method.getName());
            } else {
                Due.is("private: " + method, Modifier.isPrivate(method.getModifiers()), true);
            }
        }
        Collections.sort(open);
        Due.is("the face: " + open, open.equals(List.of(FACE)), true);
        for (Class<?> one : classes()) {
            for (Method method : one.getDeclaredMethods()) {
                boolean own = one == type && Modifier.isPublic(method.getModifiers());
                Due.is("a name of the face: " + method, !own && names.contains(method.getName()), false);
            }
        }
        Constructor<?>[] constructors = type.getDeclaredConstructors();
        Due.is("constructors", constructors.length, 1);
        Due.is("public constructor", constructors[0].getModifiers(), Modifier.PUBLIC);
        for (Field field : type.getDeclaredFields()) {
            boolean isPrivate = Modifier.isPrivate(field.getModifiers());
            Due.is("field " + field, isPrivate || field.getName().equals("NONE"), true);
        }
    }

    private static String told(Method method) {
        StringBuilder text = new StringBuilder(method.getReturnType() + " " + method.getName() + "(");
        for (Class<?> type : method.getParameterTypes()) {
            text.append(text.charAt(text.length() - 1) == '(' ? "" : ",").append(type);
        }
        return text + ")";
    }

    private static List<Class<?>> classes() {
        List<Class<?>> all = new ArrayList<>(List.of(NeedNotJoin.class.getDeclaredClasses()));
        all.add(NeedNotJoin.class);
        return all;
    }

    private static void nested() {
        Due.is("some twelve classes", classes().size() <= 12, true);
        for (Class<?> type : classes()) {
            if (type != NeedNotJoin.class) {
                int modifiers = type.getModifiers();
                boolean hidden = !Modifier.isPublic(modifiers) && !Modifier.isProtected(modifiers);
                Due.is("static and hidden: " + type, hidden && Modifier.isStatic(modifiers), true);
            }
            int fields = 0;
            for (Field field : type.getDeclaredFields()) {
                boolean isStatic = Modifier.isStatic(field.getModifiers());
                Due.is("static is final: " + field, isStatic && !Modifier.isFinal(field.getModifiers()), false);
                fields += isStatic ? 0 : 1;
            }
            Due.is("some twenty fields: " + type, fields <= 20, true);
            for (Method method : type.getDeclaredMethods()) {
                Due.is("seven parameters: " + method, method.getParameterCount() <= 7, true);
            }
        }
    }

    private static void source(String text) {
        String bare = text.replaceAll("(?s)/\\*.*?\\*/", "").replaceAll("//[^\n]*", "");
        for (String pattern : FORBIDDEN) {
            Matcher matcher = Pattern.compile(pattern).matcher(bare);
            Due.is("forbidden: " + pattern, matcher.find(), false);
        }
        int lines = 0;
        for (String line : text.split("\n")) {
            lines = line.startsWith("        }") || line.startsWith("    }") ? 0 : lines + 1;
            Due.is("a long method near: " + line, lines == 61, false);
        }
    }
}
