import java.io.IOException;
import java.lang.reflect.Field;
import java.lang.reflect.Method;
import java.lang.reflect.Modifier;
import java.nio.file.Files;
import java.nio.file.Path;
import java.util.Arrays;
import java.util.Set;
import java.util.TreeSet;
import java.util.regex.Matcher;
import java.util.regex.Pattern;

/** The class has the document's face and no more, and keeps to what can be seen of LANGUAGE.md. */
public final class RulesTest {
    private static final String[] FACE = {
        "int write(int,long)", "int wipe()", "int fault()", "int take(int)", "int told(int,int,int)",
        "long exact(int,int)", "int rest(int,int,int)", "int round(int,int,int)", "int first(int,int,int)",
        "int back(int,int,int)", "int roots(int,int,int)", "int longest(int,int,int)", "int prime(int)",
        "int add(int)", "int least(int)", "int breaks(int)", "int next()", "int make(int,int,int,int,int)",
        "int same(int,int)", "int dividing(int,boolean,int)", "int parted(int,int,int)", "int count(int)"};
    private static final String[] BARRED = {
        "\\bthrow\\b", "\\bthrows\\b", "\\btry\\b", "\\bcatch\\b", "\\bsynchronized\\b", "\\bassert\\b", "\\bimport\\b",
        "\\bpackage\\b", "\\bimplements\\b", "\\bextends\\b", "->", "::", "Exact\\(", "\\bSystem\\.(?!arraycopy)",
        "\\bdouble\\b", "\\bfloat\\b", "\\bprotected\\b", "\\bstatic \\{", "[^\\x00-\\x7f]", "\\bvar\\b", "@"};

    private RulesTest() {
    }

    public static void main(String[] args) throws IOException {
        face();
        String source = Files.readString(Path.of(System.getProperty("source", "src/main/java/CarriedRows.java")));
        barred(withoutComments(source));
        methods(withoutComments(source));
        Checks.finish("RulesTest");
    }

    private static void isTrue(String call, boolean got) {
        Checks.due(call, got ? 1 : 0, 1);
    }

    private static String shape(Method method) {
        StringBuilder shape = new StringBuilder(method.getReturnType() + " " + method.getName() + "(");
        for (Class<?> type : method.getParameterTypes()) {
            shape.append(shape.charAt(shape.length() - 1) == '(' ? "" : ",").append(type);
        }
        return shape.append(")").toString();
    }

    private static void face() {
        Class<?> face = CarriedRows.class;
        isTrue("public and final", Modifier.isPublic(face.getModifiers()) && Modifier.isFinal(face.getModifiers()));
        Set<String> shapes = new TreeSet<>();
        Set<String> names = new TreeSet<>();
        for (Method method : face.getDeclaredMethods()) {
            if (!Modifier.isPrivate(method.getModifiers())) {
                isTrue("public, not static: " + method, method.getModifiers() == Modifier.PUBLIC);
                shapes.add(shape(method));
                names.add(method.getName());
            }
        }
        isTrue("the face: " + shapes, shapes.equals(new TreeSet<>(Arrays.asList(FACE))));
        isTrue("one constructor", face.getDeclaredConstructors().length == 1
                && face.getConstructors().length == 1);
        constants(face);
        for (Method method : face.getDeclaredMethods()) {
            isTrue("no private one named so: " + method, !Modifier.isPrivate(method.getModifiers())
                    || !names.contains(method.getName()));
        }
        isTrue("twelve classes at most", face.getDeclaredClasses().length < 12);
        for (Class<?> inner : face.getDeclaredClasses()) {
            isTrue("static: " + inner, Modifier.isStatic(inner.getModifiers()));
            isTrue("not public: " + inner, !Modifier.isPublic(inner.getModifiers()));
            for (Method method : inner.getDeclaredMethods()) {
                isTrue("none inside named so: " + method, !names.contains(method.getName()));
            }
        }
    }

    private static void constants(Class<?> face) {
        Set<String> names = new TreeSet<>();
        for (Field field : face.getDeclaredFields()) {
            if (!Modifier.isPrivate(field.getModifiers())) {
                isTrue("a constant: " + field, field.getType() == int.class
                        && field.getModifiers() == (Modifier.PUBLIC | Modifier.STATIC | Modifier.FINAL));
                names.add(field.getName());
            }
        }
        isTrue("the constants: " + names,
                names.equals(new TreeSet<>(Arrays.asList("BAD", "NO", "FULL", "NONE", "SPENT"))));
        Checks.due("BAD", CarriedRows.BAD, -1);
        Checks.due("NO", CarriedRows.NO, -2);
        Checks.due("FULL", CarriedRows.FULL, -3);
        Checks.due("NONE", CarriedRows.NONE, -4);
        Checks.due("SPENT", CarriedRows.SPENT, -5);
    }

    private static String withoutComments(String source) {
        return source.replaceAll("(?s)/\\*.*?\\*/", "").replaceAll("//[^\n]*", "");
    }

    private static void barred(String source) {
        for (String pattern : BARRED) {
            Matcher matcher = Pattern.compile(pattern).matcher(source);
            isTrue("not in the class: " + pattern, !matcher.find());
        }
    }

    /** A method has seven parameters and sixty lines at most. */
    private static void methods(String source) {
        Pattern start = Pattern.compile("(?m)^( +)[a-zA-Z][^\n;=]*\\(([^()]*)\\) \\{$");
        Matcher matcher = start.matcher(source);
        int seen = 0;
        while (matcher.find()) {
            seen++;
            int end = source.indexOf("\n" + matcher.group(1) + "}", matcher.end());
            long lines = source.substring(matcher.end(), end).lines().count();
            isTrue("sixty lines at most: " + matcher.group().trim(), lines <= 60);
            isTrue("seven parameters at most: " + matcher.group().trim(), matcher.group(2).split(",").length <= 7);
        }
        isTrue("methods were found", seen > 60);
    }
}
