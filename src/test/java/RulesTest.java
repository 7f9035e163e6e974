import java.lang.reflect.Constructor;
import java.lang.reflect.Field;
import java.lang.reflect.Method;
import java.lang.reflect.Modifier;
import java.nio.file.Files;
import java.nio.file.Path;
import java.util.Arrays;
import java.util.List;
import java.util.TreeSet;
import java.util.regex.Matcher;
import java.util.regex.Pattern;

/** The document's face, and what of LANGUAGE.md can be seen from outside or found in the source. */
public final class RulesTest {
    private static final String[] FACE = {
        "int feed(int, int, int, int, int)", "int text(int)", "int fault(int)", "int named(int, int)", "int walker(int, int)",
        "int bench(int, int)", "int restOf(int, int)", "int piano()", "long law(int, int, int)", "int sit(int, int)",
        "boolean rise(int)", "int push(int)", "int go(int)", "int ahead(int, int, int)", "int meet(int, int)",
        "int pass(int, int)", "int out(int)", "int best(int, int, int)", "int cover(int)", "int carry()", "int rests(int, int)",
        "int rest(int, int, int)", "long quiet(int, int)", "int see(int, int, int, boolean)", "int strike(int)",
        "boolean known(int)", "int paces(int)", "int chance(int, int, int)", "int tried(int, int, int)", "int undo()", "int keep()",
        "int back()", "int count(int)"};

    private static int wrong = 0;

    public static void main(String[] args) throws Exception {
        face();
        classesInside();
        source(Files.readString(Path.of("src/main/java/HalfLandings.java")));
        System.out.println(wrong == 0 ? "the rules are kept" : wrong + " rules are broken");
        if (wrong != 0) {
            System.exit(1);
        }
    }

    private static void rule(boolean kept, String what) {
        if (!kept) {
            wrong++;
            System.out.println("not so: " + what);
        }
    }

    private static void face() {
        Class<?> c = HalfLandings.class;
        rule(Modifier.isPublic(c.getModifiers()) && Modifier.isFinal(c.getModifiers()), "the class is public and final");
        TreeSet<String> found = new TreeSet<>();
        for (Method m : c.getDeclaredMethods()) {
            if (!Modifier.isPrivate(m.getModifiers())) {
                rule(Modifier.isPublic(m.getModifiers()), m + " is public or private");
                String types = Arrays.toString(m.getParameterTypes());
                found.add(m.getReturnType() + " " + m.getName() + "(" + types.substring(1, types.length() - 1) + ")");
            }
        }
        rule(found.equals(new TreeSet<>(Arrays.asList(FACE))), "the face is the document's: " + found);
        for (Constructor<?> k : c.getDeclaredConstructors()) {
            rule(Modifier.isPublic(k.getModifiers()) && k.getParameterCount() == 0, k + " is the document's");
        }
        for (Field f : c.getDeclaredFields()) {
            rule(Modifier.isPrivate(f.getModifiers()) || f.getName().equals("NONE"), f + " is private");
        }
    }

    private static void classesInside() {
        Class<?>[] inside = HalfLandings.class.getDeclaredClasses();
        rule(inside.length < 12, "at most twelve classes");
        TreeSet<String> names = new TreeSet<>();
        for (String f : FACE) {
            names.add(f.replaceAll("\\(.*", "").replaceAll(".* ", ""));
        }
        for (Class<?> c : inside) {
            rule(Modifier.isStatic(c.getModifiers()) && !Modifier.isPublic(c.getModifiers()), c + " is static and not public");
            for (Method m : c.getDeclaredMethods()) {
                rule(!names.contains(m.getName()), m + " bears no name of the face");
            }
        }
        for (Class<?> c : withOuter(inside)) {
            int fields = 0;
            for (Field f : c.getDeclaredFields()) {
                fields += Modifier.isStatic(f.getModifiers()) ? 0 : 1;
                rule(!Modifier.isStatic(f.getModifiers()) || Modifier.isFinal(f.getModifiers()), f + " is final");
            }
            rule(fields <= 20, c + " has at most twenty fields: " + fields);
            for (Method m : c.getDeclaredMethods()) {
                rule(m.getParameterCount() <= 7, m + " has at most seven parameters");
            }
        }
    }

    private static List<Class<?>> withOuter(Class<?>[] inside) {
        List<Class<?>> all = new java.util.ArrayList<>(Arrays.asList(inside));
        all.add(HalfLandings.class);
        return all;
    }

    private static void source(String text) {
        for (String word : new String[] {"->", "::", "finally", "synchronized", "assert", "Exact", "catch", "package ", "static {", "double", "float"}) {
            rule(!text.contains(word), "no " + word + " in the source");
        }
        Matcher imports = Pattern.compile("import ([\\w.]+);").matcher(text);
        while (imports.find()) {
            rule(imports.group(1).equals("java.util.Arrays") || imports.group(1).equals("java.util.NoSuchElementException"), imports.group());
        }
        Matcher fills = Pattern.compile("Arrays\\.(\\w+)").matcher(text);
        while (fills.find()) {
            rule(fills.group(1).equals("fill"), fills.group());
        }
        int start = 0;
        String[] lines = text.split("\n");
        for (int i = 0; i < lines.length; i++) {
            if (lines[i].matches("\\s+(public|private|static|final|\\w)[\\w\\[\\]<> ]*\\(.*\\{") && !lines[i].matches("\\s+(if|for|while|switch|\\}).*")) {
                start = i;
            }
            if (lines[i].matches("    (    )?\\}")) {
                rule(i - start < 62, "a method of some sixty lines at most behind line " + (start + 1));
            }
            boolean makes = lines[i].contains(" new ") && !lines[i].contains("throw new");
            rule(!makes || lines[i].matches("\\s+(private |final |static )*[\\w\\[\\]]+ \\w+ = new .*") || lines[i].contains("this.lawReader = new"),
                "nothing is made behind a constructor: line " + (i + 1));
        }
    }
}
