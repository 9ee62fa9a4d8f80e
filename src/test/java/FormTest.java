import java.lang.reflect.Constructor;
import java.lang.reflect.Field;
import java.lang.reflect.Method;
import java.lang.reflect.Modifier;
import java.nio.file.Files;
import java.nio.file.Path;
import java.util.Arrays;
import java.util.Set;
import java.util.TreeSet;
import java.util.regex.Matcher;
import java.util.regex.Pattern;

/** The public face of the document, and what LANGUAGE.md rules out as far as it can be read off. */
public final class FormTest {
    private static final Check check = new Check("FormTest");
    private static final String[] METHODS = {
        "int store(int,int,int,int)", "int ofJar(int,int)", "int ofDecider(int,int)", "int cure(int,int)",
        "int fetch(int,int)", "int price(int,int)", "int dread(int,int)", "int pay(int,int)", "int mark(int,int)",
        "int blend(int,int)", "int hold(int,int)", "int sell(int,int)", "int year(int,int,int,int,int)",
        "int mix(int,int)", "int like(int)", "int guess(int,int,int,int,int)", "int serve(int)", "int dear(int)",
        "int reading(int,int,int)", "int back(int)", "int sures(int)", "int fades(int)", "int kinds(int)",
        "long odds(int,int)", "int sheet(int,int,int)", "int lose(int)", "int put(int,int,int)",
        "long cell(int,int,int)", "int copy(int,int,int,int,int)", "int tell(int)", "int sniff(int)",
        "int as(int,int)", "int trace()", "int fault()", "int many(int)"};

    public static void main(String[] args) throws Exception {
        face();
        insideClasses();
        source(Files.readString(Path.of("src/main/java/LastJars.java")));
        check.end();
    }

    private static void face() throws Exception {
        check.promise("face");
        check.holds("public final", LastJars.class.getModifiers() == (Modifier.PUBLIC | Modifier.FINAL));
        Set<String> methods = new TreeSet<>();
        for (Method method : LastJars.class.getDeclaredMethods()) {
            if (Modifier.isPrivate(method.getModifiers())) {
                check.holds(method + " has a name of its own", hasOwnName(method));
            }
            if (!Modifier.isPrivate(method.getModifiers())) {
                check.holds(method + " is public, not static", method.getModifiers() == Modifier.PUBLIC);
                String parameters = String.join(",", Arrays.stream(method.getParameterTypes()).map(Class::getName).toList());
                methods.add(method.getReturnType().getName() + " " + method.getName() + "(" + parameters + ")");
            }
        }
        check.holds("methods " + methods, methods.equals(new TreeSet<>(Arrays.asList(METHODS))));
        Constructor<?>[] constructors = LastJars.class.getDeclaredConstructors();
        check.holds("one constructor", constructors.length == 1 && constructors[0].getParameterCount() == 0
            && Modifier.isPublic(constructors[0].getModifiers()));
        Set<String> fields = new TreeSet<>();
        for (Field field : LastJars.class.getDeclaredFields()) {
            int is = field.getModifiers();
            check.holds(field + " is final, if static", !Modifier.isStatic(is) || Modifier.isFinal(is));
            if (!Modifier.isPrivate(is)) {
                fields.add(field.getType() + " " + field.getName() + " " + field.getLong(null));
            }
        }
        check.holds("constants " + fields, fields.equals(Set.of("int UNKNOWN -1", "int OUTSIDE -2", "int STATE -3",
            "int FULL -4", "int NONE -9", "long LOST " + Long.MIN_VALUE)));
    }

    private static void insideClasses() {
        check.promise("classes inside");
        Class<?>[] inside = LastJars.class.getDeclaredClasses();
        check.holds("twelve classes at most", inside.length < 12);
        for (Class<?> one : inside) {
            int is = one.getModifiers();
            check.holds(one + " is static, not public", Modifier.isStatic(is) && !Modifier.isPublic(is) && !Modifier.isProtected(is));
            check.holds(one + " has twenty fields at most",
                Arrays.stream(one.getDeclaredFields()).filter(f -> !Modifier.isStatic(f.getModifiers())).count() <= 20);
            for (Method method : one.getDeclaredMethods()) {
                check.holds(method + " has a name of its own", hasOwnName(method));
                check.holds(method + " takes seven at most", method.getParameterCount() <= 7);
            }
        }
    }

    private static boolean hasOwnName(Method method) {
        return Arrays.stream(METHODS).noneMatch(m -> m.contains(" " + method.getName() + "("));
    }

    private static void source(String file) {
        check.promise("source");
        check.holds("signs 1 to 127 alone", file.chars().allMatch(c -> c > 0 && c < 128));
        String code = file.replaceAll("(?s)/\\*.*?\\*/", "").replaceAll("//[^\n]*", "");
        String[] ruledOut = {"throw", "throws", "try", "catch", "synchronized", "assert", "package", "protected",
            "Object", "System\\.(?!arraycopy)", "Exact", "->", "::", "hashCode", "toString", "Random", "Thread", "@"};
        for (String word : ruledOut) {
            Matcher m = Pattern.compile(word.matches("\\w+") && !word.equals("Exact") ? "\\b" + word + "\\b" : word).matcher(code);
            check.holds("'" + word + "' is ruled out", !m.find());
        }
        Matcher imports = Pattern.compile("import ([\\w.]+);").matcher(code);
        while (imports.find()) {
            check.holds("import " + imports.group(1),
                Set.of("java.util.Arrays", "java.util.ArrayList", "java.util.List").contains(imports.group(1)));
        }
        methodLengths(code);
    }

    private static void methodLengths(String code) {
        int start = 0;
        String[] lines = code.split("\n");
        for (int i = 0; i < lines.length; i++) {
            if (lines[i].matches("( {4}| {8})[a-zA-Z].*\\) \\{")) {
                start = i;
            }
            if (lines[i].matches("( {4}| {8})\\}") && start > 0) {
                check.holds("method at line " + (start + 1) + " is short", i - start <= 60);
            }
        }
    }
}
