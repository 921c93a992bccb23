import java.io.IOException;
import java.lang.reflect.Field;
import java.lang.reflect.Method;
import java.lang.reflect.Modifier;
import java.nio.file.Files;
import java.nio.file.Path;
import java.util.ArrayList;
import java.util.Arrays;
import java.util.Collections;
import java.util.HashSet;
import java.util.List;
import java.util.Set;

/** The face, by LANGUAGE.md's rule 1, and what its other rules leave out of the source that can be seen in its words. */
public final class FaceTest {
    private static final String[] FACE = {
        "int claim(int)", "int renew(int,int)", "int estate(int)", "int rule(int)", "int of(int)", "int told(int)",
        "int feed(int)", "int read()", "long award(int,int,int)", "int cut(int,int)", "long dual(int,int,int)",
        "long alone(int,int,int,int)", "int consistent(int)", "long change(int,int,int,int,int)",
        "int inverse(int,int,int)", "int bends(int,int)", "int like(int)", "int sore(int,int)",
        "long poured(int,int,int)", "long gap(int,int,int)", "int see(int,int)", "int fits(int,int)",
        "long odds(int,int,int)", "long mean(int)", "int event(int,int)", "long after(int)", "int book(int,int)",
        "int looked()", "int judge(int,int)", "int image()", "int undo()", "int count(int)", "int tape(int,int,int)",
        "int item(int,int,long)", "long peek(int,int)", "int shift(int,int,int,int,int)"};
    private static final String[] CONSTANTS = {"NONE", "BAD", "STATE", "FULL", "NO"};
    private static final String[] LEFT_OUT = {
        "->", "::", "try", "catch", "finally", "throw", "throws", "synchronized", "assert", "instanceof", "String",
        "Float.", "Double.", "System.out", "Random", "Thread", "Exact", "toString", "hashCode", "equals", "protected",
        "float\\)\\s*Math", "static\\s*\\{", "package", "null"};

    private static final Checks CHECKS = new Checks();

    public static void main(String[] args) throws IOException {
        face();
        names();
        words(Path.of(args[0]));
        methodsAreShort(Path.of(args[0]));
        libraryIsAllowed(Path.of(args[0]));
        CHECKS.finish("FaceTest");
    }

    private static void face() {
        Class<EstateVessels> type = EstateVessels.class;
        CHECKS.holds("public and final", Modifier.isPublic(type.getModifiers()) && Modifier.isFinal(type.getModifiers()));
        CHECKS.due("constructors", type.getDeclaredConstructors().length, 1);
        CHECKS.due("public constructors", type.getConstructors().length, 1);
        List<String> methods = new ArrayList<>();
        for (Method method : type.getDeclaredMethods()) {
            if (!Modifier.isPrivate(method.getModifiers())) {
                methods.add(told(method));
            }
        }
        List<String> face = new ArrayList<>(Arrays.asList(FACE));
        Collections.sort(methods);
        Collections.sort(face);
        CHECKS.holds("the methods are " + methods, methods.equals(face));
        Set<String> constants = new HashSet<>();
        for (Field field : type.getDeclaredFields()) {
            if (!Modifier.isPrivate(field.getModifiers())) {
                constants.add(field.getName());
            }
            boolean isStatic = Modifier.isStatic(field.getModifiers());
            CHECKS.holds(field + " is final", !isStatic || Modifier.isFinal(field.getModifiers()));
        }
        CHECKS.holds("the constants are " + constants, constants.equals(Set.of(CONSTANTS)));
    }

    private static String told(Method method) {
        StringBuilder told = new StringBuilder(method.getReturnType() + " " + method.getName() + "(");
        for (Class<?> type : method.getParameterTypes()) {
            told.append(told.charAt(told.length() - 1) == '(' ? "" : ",").append(type);
        }
        return told.append(")").toString();
    }

    /** No method but the face's own bears a name of the face. */
    private static void names() {
        Set<String> names = new HashSet<>();
        for (String told : FACE) {
            names.add(told.substring(told.indexOf(' ') + 1, told.indexOf('(')));
        }
        List<Class<?>> types = new ArrayList<>(Arrays.asList(EstateVessels.class.getDeclaredClasses()));
        CHECKS.holds("some twelve classes", types.size() < 12);
        types.add(EstateVessels.class);
        for (Class<?> type : types) {
            boolean isFace = type == EstateVessels.class;
            CHECKS.holds(type + " is static", isFace || Modifier.isStatic(type.getModifiers()));
            CHECKS.holds(type + " isn't public", isFace || !Modifier.isPublic(type.getModifiers()));
            CHECKS.holds(type + " has few fields", isFace || type.getDeclaredFields().length <= 20);
            for (Method method : type.getDeclaredMethods()) {
                boolean isOwn = isFace && Modifier.isPublic(method.getModifiers());
                CHECKS.holds(method + " bears a name of its own", isOwn || !names.contains(method.getName()));
                CHECKS.holds(method + " takes seven at most", method.getParameterCount() <= 7);
            }
        }
    }

    private static void words(Path source) throws IOException {
        String text = Files.readString(source);
        // What comments say binds nobody.
        String code = text.replaceAll("(?s)/\\*.*?\\*/", " ").replaceAll("//[^\n]*", " ");
        for (String word : LEFT_OUT) {
            String pattern = Character.isLetter(word.charAt(0)) ? "\\b" + word : word;
            pattern = word.endsWith(".") ? "\\b" + word.replace(".", "\\.") : pattern;
            CHECKS.holds("no " + word, !java.util.regex.Pattern.compile(pattern).matcher(code).find());
        }
        CHECKS.holds("one import, of Arrays", code.split("\\bimport\\b").length == 2
                && code.contains("import java.util.Arrays;"));
        for (int k = 0; k < text.length(); k++) {
            CHECKS.holds("signs 1 to 127", text.charAt(k) < 128);
        }
    }

    /** Each method of some sixty lines at most: from its head to the brace that stands as far in. */
    private static void methodsAreShort(Path source) throws IOException {
        List<String> lines = Files.readAllLines(source);
        int methods = 0;
        for (int from = 0; from < lines.size(); from++) {
            String line = lines.get(from);
            int depth = line.length() - line.stripLeading().length();
            if (line.endsWith(") {") && (depth == 4 || depth == 8) && line.matches(" +[\\w\\[\\]. ]+\\(.*")
                    && !line.matches(" +(if|for|while|switch) .*")) {
                int to = from;
                while (to < lines.size() && !lines.get(to).equals(" ".repeat(depth) + "}")) {
                    to++;
                }
                CHECKS.holds("short: " + line.trim(), to - from < 60);
                methods++;
            }
        }
        CHECKS.holds("methods were found", methods > 80);
    }

    /** Of the library just what LANGUAGE.md's rule 4 lists, by the names before a dot. */
    private static void libraryIsAllowed(Path source) throws IOException {
        Set<String> allowed = Set.of("Math.min", "Math.abs", "Integer.bitCount", "Long.MIN_VALUE", "System.arraycopy",
                "Arrays.fill");
        java.util.regex.Matcher names = java.util.regex.Pattern.compile("\\b(Math|Integer|Long|System|Arrays|Float|Double|"
                + "Short|Byte|Boolean|Character|Object|StringBuilder|List)\\.(\\w+)").matcher(
                Files.readString(source).replace("import java.util.Arrays;", ""));
        while (names.find()) {
            CHECKS.holds(names.group() + " is allowed", allowed.contains(names.group()));
        }
    }
}
