import java.lang.reflect.Constructor;
import java.lang.reflect.Field;
import java.lang.reflect.Method;
import java.lang.reflect.Modifier;
import java.nio.charset.StandardCharsets;
import java.nio.file.Files;
import java.nio.file.Path;
import java.util.ArrayList;
import java.util.Arrays;
import java.util.List;
import java.util.Set;
import java.util.TreeSet;
import java.util.regex.Matcher;
import java.util.regex.Pattern;

/** The public face is the document's and no more; the source keeps to those rules of LANGUAGE.md that a scan can see. */
public final class FaceTest {
    private static final String[] METHODS = {
        "int type(int)", "int clear()", "int parish()", "int knee(int,int)", "int person(int,int)", "int farm(int,int)",
        "int now(int)", "int lends(int,int)", "int walks(int,int,int)", "int brings(int)", "int pledges(int,int)",
        "int bell()", "int undo()", "int canGo(int,int)", "int lending(int)", "int kneeFor(int,int,int)",
        "int most(int)", "int span(int,int)", "int gives(int,int,int,int,int,int)", "int tells(int,int,int)",
        "int downhill(int)", "int felt(int,int)", "int rain(int)", "int forget()", "int rate(int,int)", "int keep(int)",
        "int back(int)", "int count(int)", "long trace()"};
    private static final String[] CONSTANTS = {"BAD", "STATE", "FULL", "NONE", "NO"};
    private static final String[] FORBIDDEN = {
        "throw", "throws", "try", "catch", "synchronized", "assert", "hashCode", "toString", "Random", "Thread", "var"};

    private FaceTest() {
    }

    private static void same(String what, Object got, Object want) {
        if (!got.equals(want)) {
            Due.due(what + " is " + got + ", due " + want, 0, 1);
        }
    }

    private static boolean isPublicOnly(int modifiers) {
        return Modifier.isPublic(modifiers);
    }

    private static void methods() {
        Set<String> open = new TreeSet<>();
        Set<String> publicNames = new TreeSet<>();
        List<String> hidden = new ArrayList<>();
        for (Method m : KneesLent.class.getDeclaredMethods()) {
            if (m.isSynthetic()) {
                continue;
            }
            if (Modifier.isPrivate(m.getModifiers())) {
                hidden.add(m.getName());
                continue;
            }
            StringBuilder types = new StringBuilder();
            for (Class<?> type : m.getParameterTypes()) {
                types.append(types.length() == 0 ? "" : ",").append(type.getName());
            }
            open.add(m.getReturnType().getName() + " " + m.getName() + "(" + types + ")");
            publicNames.add(m.getName());
            same(m.getName() + " public", isPublicOnly(m.getModifiers()), true);
        }
        same("methods", open, new TreeSet<>(Arrays.asList(METHODS)));
        for (String name : hidden) {
            same("private method with a public name " + name, publicNames.contains(name), false);
        }
    }

    private static void fieldsAndClasses() {
        Set<String> open = new TreeSet<>();
        for (Field f : KneesLent.class.getDeclaredFields()) {
            if (!Modifier.isPrivate(f.getModifiers())) {
                open.add(f.getName());
            }
            if (Modifier.isStatic(f.getModifiers())) {
                same("static " + f.getName() + " final", Modifier.isFinal(f.getModifiers()), true);
            }
        }
        same("constants", open, new TreeSet<>(Arrays.asList(CONSTANTS)));
        Constructor<?>[] makers = KneesLent.class.getDeclaredConstructors();
        same("constructors", makers.length, 1);
        same("constructor's parameters", makers[0].getParameterCount(), 0);
        same("public final", Modifier.isPublic(KneesLent.class.getModifiers())
            && Modifier.isFinal(KneesLent.class.getModifiers()), true);
        for (Class<?> inside : KneesLent.class.getDeclaredClasses()) {
            same(inside.getName() + " static", Modifier.isStatic(inside.getModifiers()), true);
            same(inside.getName() + " public", Modifier.isPublic(inside.getModifiers()), false);
        }
    }

    private static List<Class<?>> allClasses() {
        List<Class<?>> all = new ArrayList<>(Arrays.asList(KneesLent.class.getDeclaredClasses()));
        all.add(KneesLent.class);
        return all;
    }

    /** Rule 11: parameters, fields beside constants, classes. */
    private static void sizes() {
        atMost("classes", allClasses().size(), 12);
        for (Class<?> one : allClasses()) {
            int fields = 0;
            for (Field f : one.getDeclaredFields()) {
                fields += Modifier.isStatic(f.getModifiers()) ? 0 : 1;
            }
            atMost("fields of " + one.getName(), fields, 20);
            for (Method m : one.getDeclaredMethods()) {
                atMost("parameters of " + m.getName(), m.getParameterCount(), 7);
            }
        }
    }

    /** Rule 11: a method ends at the first closing brace that stands as far in as its head. */
    private static void lengths(String all) {
        Matcher methods = Pattern.compile("(?m)^( +)[^\\s/*][^;=\n]*\\) \\{\n(?s:.*?)\n\\1\\}$").matcher(all);
        int found = 0;
        int from = 0;
        while (methods.find(from)) {
            atMost("lines of " + methods.group().lines().findFirst().orElse(""), methods.group().lines().count(), 60);
            found++;
            from = methods.end();
        }
        same("methods found", found > METHODS.length, true);
    }

    /** No call makes an object: what is made stands in a field's own line, or in a row that a constructor fills. */
    private static void makesNothingLater(String code) {
        for (String line : code.split("\n")) {
            boolean field = line.matches(" +(private |final |private final )[\\w\\[\\]]+ \\w+ = new .*;");
            boolean row = line.matches(" +(images|before)\\[i\\] = new Now\\(\\);");
            if (line.matches(".*\\bnew\\b.*") && !field && !row) {
                same("a line that makes something", line, "");
            }
        }
    }

    private static void atMost(String what, long got, long most) {
        if (got > most) {
            Due.due(what + " are " + got + ", at most", got, most);
        }
    }

    private static void source() throws Exception {
        String all = Files.readString(Path.of("src/main/java/KneesLent.java"), StandardCharsets.ISO_8859_1);
        String code = all.replaceAll("(?s)/\\*.*?\\*/", " ").replaceAll("//[^\n]*", " ");
        lengths(all);
        makesNothingLater(code);
        for (String word : FORBIDDEN) {
            Matcher m = Pattern.compile("\\b" + word + "\\b").matcher(code);
            same("source has " + word, m.find(), false);
        }
        same("source has a lambda or a method reference", code.contains("->") || code.contains("::"), false);
        Matcher imports = Pattern.compile("import ([^;]*);").matcher(code);
        while (imports.find()) {
            same("import", imports.group(1), "java.util.Arrays");
        }
        for (int i = 0; i < all.length(); i++) {
            if (all.charAt(i) > 126) {
                same("sign at " + i, (int) all.charAt(i), 126);
            }
        }
    }

    public static void main(String[] args) throws Exception {
        Due.about("face");
        methods();
        fieldsAndClasses();
        sizes();
        source();
        Due.due("BAD", KneesLent.BAD, -1);
        Due.due("STATE", KneesLent.STATE, -2);
        Due.due("FULL", KneesLent.FULL, -3);
        Due.due("NONE", KneesLent.NONE, -9);
        Due.due("NO", KneesLent.NO, -1000000);
        Due.end();
    }
}
