import java.io.IOException;
import java.lang.reflect.Constructor;
import java.lang.reflect.Field;
import java.lang.reflect.Method;
import java.lang.reflect.Modifier;
import java.nio.file.Files;
import java.nio.file.Path;
import java.util.ArrayList;
import java.util.Arrays;
import java.util.List;
import java.util.Set;
import java.util.TreeSet;
import java.util.regex.Matcher;
import java.util.regex.Pattern;

/** The face of the class, and what LANGUAGE.md rules out, as far as a test can see it. */
public final class RulesTest {
    private static final String SOURCE = "src/main/java/SleeveSlips.java";
    private static final String[] FACE = {
        "int type(long,int)", "int clear()", "int town()", "int person(int,int)", "int asking(int,int)",
        "int slip(int,int)", "int promise(int)", "int letOff(int)", "int breaks(int)", "int hand(int,int)",
        "int undo()", "int day()", "int now(int)", "int take(int,int)", "int bound(int,int)",
        "int sort(int,int,int,int)", "long expected(int,int,int)", "int wise(int,int,int)", "int ring()",
        "int order(int)", "int fewest(int)", "int great(int,int,int)", "int rate(int,int)", "int keep(int)",
        "int back(int)", "int count(int)", "long trace()"};
    private static final String[] RULED_OUT = {
        "\\bthrow\\b", "\\bthrows\\b", "\\btry\\b", "\\bcatch\\b", "\\bsynchronized\\b", "\\bassert\\b", "->", "::",
        "Exact\\b", "\\bequals\\s*\\(\\s*Object", "\\bhashCode\\b", "\\btoString\\b", "\\bpackage\\b", "\\bvolatile\\b",
        "\\bprotected\\b", "\\bObject\\b", "\\bThread\\b", "\\bRandom\\b", "currentTimeMillis", "nanoTime", "getenv",
        "System\\.out", "_VALUE\\b", "\\bstatic\\s*\\{", "while\\s*\\(\\s*true", "for\\s*\\(\\s*;\\s*;"};
    private static int wrong = 0;

    public static void main(String[] args) throws IOException {
        constants();
        face();
        classesInside();
        sourceWords();
        methodLengths();
        System.out.println(wrong == 0 ? "all rules are kept" : wrong + " rules are not kept");
        if (wrong != 0) {
            System.exit(1);
        }
    }

    private static void due(boolean kept, String rule) {
        if (!kept) {
            wrong++;
            System.out.println("not so: " + rule);
        }
    }

    private static void constants() {
        due(SleeveSlips.BAD == -1, "BAD is -1");
        due(SleeveSlips.STATE == -2, "STATE is -2");
        due(SleeveSlips.FULL == -3, "FULL is -3");
        due(SleeveSlips.NONE == -9, "NONE is -9");
        due(SleeveSlips.NO == -1000000, "NO is -1000000");
    }

    private static void face() {
        int modifiers = SleeveSlips.class.getModifiers();
        due(Modifier.isPublic(modifiers) && Modifier.isFinal(modifiers), "the class is public and final");
        Constructor<?>[] made = SleeveSlips.class.getDeclaredConstructors();
        due(made.length == 1 && Modifier.isPublic(made[0].getModifiers()) && made[0].getParameterCount() == 0,
                "one public constructor without parameters");
        Set<String> seen = new TreeSet<>();
        for (Method m : SleeveSlips.class.getDeclaredMethods()) {
            if (!Modifier.isPrivate(m.getModifiers())) {
                due(Modifier.isPublic(m.getModifiers()) && !Modifier.isStatic(m.getModifiers()), m + " is public");
                seen.add(signature(m));
            }
        }
        due(seen.equals(new TreeSet<>(Arrays.asList(FACE))), "the methods are those of the document: " + seen);
        Set<String> open = new TreeSet<>();
        for (Field f : SleeveSlips.class.getDeclaredFields()) {
            if (!Modifier.isPrivate(f.getModifiers())) {
                open.add(f.getName());
            }
        }
        due(open.equals(Set.of("BAD", "STATE", "FULL", "NONE", "NO")), "the constants are those of the document: " + open);
    }

    private static String signature(Method m) {
        List<String> parameters = new ArrayList<>();
        for (Class<?> c : m.getParameterTypes()) {
            parameters.add(c.getName());
        }
        return m.getReturnType().getName() + " " + m.getName() + "(" + String.join(",", parameters) + ")";
    }

    private static void classesInside() {
        Set<String> names = new TreeSet<>();
        for (String f : FACE) {
            names.add(f.replaceAll(".* (\\w+)\\(.*", "$1"));
        }
        List<Class<?>> all = new ArrayList<>(Arrays.asList(SleeveSlips.class.getDeclaredClasses()));
        due(all.size() + 1 <= 12, "some twelve classes");
        for (Class<?> c : all) {
            int modifiers = c.getModifiers();
            due(Modifier.isStatic(modifiers), c + " is static");
            due(!Modifier.isPublic(modifiers) && !Modifier.isProtected(modifiers), c + " is not to be seen");
            due(c.getDeclaredClasses().length == 0, c + " has no classes inside");
        }
        all.add(SleeveSlips.class);
        for (Class<?> c : all) {
            int fields = 0;
            for (Field f : c.getDeclaredFields()) {
                boolean isStatic = Modifier.isStatic(f.getModifiers());
                due(!isStatic || Modifier.isFinal(f.getModifiers()), f + " is final");
                fields += isStatic ? 0 : 1;
            }
            due(fields <= 20, c + " has some twenty fields");
            for (Method m : c.getDeclaredMethods()) {
                due(m.getParameterCount() <= 7, m + " has seven parameters at most");
                boolean ofFace = c == SleeveSlips.class && Modifier.isPublic(m.getModifiers());
                due(ofFace || !names.contains(m.getName()), m + " does not bear a public name");
            }
        }
    }

    private static String bareSource() throws IOException {
        String text = Files.readString(Path.of(SOURCE));
        return text.replaceAll("(?s)/\\*.*?\\*/", "").replaceAll("//[^\n]*", "").replaceAll("\"[^\"\n]*\"", "\"\"");
    }

    private static void sourceWords() throws IOException {
        String bare = bareSource();
        for (String word : RULED_OUT) {
            due(!Pattern.compile(word).matcher(bare).find(), "no " + word);
        }
        Matcher imports = Pattern.compile("\\bimport\\s+([\\w.*]+)").matcher(bare);
        while (imports.find()) {
            due(imports.group(1).equals("java.util.Arrays"), "no import of " + imports.group(1));
        }
        // All rows are made with the object: no call makes an object.
        String face = bare.substring(bare.indexOf("public int type"), bare.indexOf("class Town"));
        due(!Pattern.compile("\\bnew\\b").matcher(face).find(), "no call makes an object");
    }

    private static void methodLengths() throws IOException {
        String indent = "";
        int start = 0;
        int line = 0;
        for (String row : Files.readAllLines(Path.of(SOURCE))) {
            line++;
            Matcher head = Pattern.compile("( {4}| {8})\\w.*\\) \\{").matcher(row);
            if (head.matches() && !row.matches(" *(if|for|while|switch|else)\\b.*")) {
                indent = head.group(1);
                start = line;
            }
            if (start > 0 && row.equals(indent + "}")) {
                due(line - start < 60, "the method at line " + start + " is short");
                start = 0;
            }
        }
    }
}
