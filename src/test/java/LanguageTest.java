import java.io.IOException;
import java.lang.reflect.Field;
import java.lang.reflect.Method;
import java.lang.reflect.Modifier;
import java.nio.file.Files;
import java.nio.file.Path;
import java.util.ArrayList;
import java.util.Collections;
import java.util.List;
import java.util.Set;
import java.util.TreeSet;
import java.util.regex.Matcher;
import java.util.regex.Pattern;

/** The rules of LANGUAGE.md that can be seen from the class and its text. */
public final class LanguageTest {
    private static final String[] RULED_OUT = {"->", "::", "\\bfinally\\b", "\\bsynchronized\\b", "\\bassert\\b", "\\bcatch\\b",
        "\\btry\\b", "Exact\\(", "\\bdouble\\b", "\\bfloat\\b", "\\bSystem\\b", "\\bString\\.", "\\bInteger\\.(?!bitCount\\b|compare\\b|MAX|MIN)",
        "\\bequals\\(", "\\bhashCode\\b", "\\btoString\\b", "\\brecord\\b", "static \\{", "\\bArrays\\b", "\\bordinal\\b"};

    private static int wrong = 0;

    private static void say(String what) {
        wrong++;
        System.out.println(what);
    }

    public static void main(String[] args) throws IOException, IllegalAccessException {
        face();
        insides();
        text();
        System.out.println("LanguageTest: " + wrong + " faults");
        System.exit(wrong == 0 ? 0 : 1);
    }

    private static void face() throws IllegalAccessException {
        Set<String> due = new TreeSet<>();
        for (String line : Face.LINES) {
            due.add(Face.withoutNames(line));
        }
        Set<String> got = Face.ofTheClass();
        if (!due.equals(got)) {
            say("the face is " + got);
        }
        Set<String> names = new TreeSet<>();
        for (Method m : FeederShares.class.getDeclaredMethods()) {
            if (Modifier.isPublic(m.getModifiers())) {
                names.add(m.getName());
            }
        }
        privates(FeederShares.class, names);
        for (Class<?> inside : FeederShares.class.getDeclaredClasses()) {
            privates(inside, names);
        }
    }

    private static void privates(Class<?> type, Set<String> names) {
        for (Method m : type.getDeclaredMethods()) {
            if (!Modifier.isPublic(m.getModifiers()) && names.contains(m.getName())) {
                say(m + " bears the name of a public one");
            }
            if (m.getParameterCount() > 7) {
                say(m + " takes too many parameters");
            }
        }
    }

    private static void insides() {
        List<Class<?>> all = new ArrayList<>(List.of(FeederShares.class.getDeclaredClasses()));
        Collections.addAll(all, FeederShares.class);
        if (all.size() > 12) {
            say(all.size() + " classes");
        }
        for (Class<?> type : all) {
            int fields = 0;
            for (Field f : type.getDeclaredFields()) {
                boolean fixed = Modifier.isStatic(f.getModifiers());
                fields += fixed ? 0 : 1;
                if (fixed && !Modifier.isFinal(f.getModifiers())) {
                    say(f + " is not final");
                }
            }
            if (fields > 20) {
                say(type + " has " + fields + " fields");
            }
            if (type != FeederShares.class && Modifier.isPublic(type.getModifiers())) {
                say(type + " is public");
            }
        }
    }

    private static void text() throws IOException {
        List<String> lines = Files.readAllLines(Path.of("src/main/java/FeederShares.java"));
        Pattern madeWell = Pattern.compile("throw new NoSuchElementException\\(\\);|private final \\S+ \\w+ = new |^        \\w+ = new \\w+\\(\\w*\\);|"
                + "^            cells = new int\\[size < 0 \\? 0 : size\\];");
        int begun = 0;
        for (int i = 0; i < lines.size(); i++) {
            String line = lines.get(i);
            String code = line.replaceAll("//.*|/\\*\\*.*|^ +\\*.*", "").replaceAll("\"[^\"]*\"", "\"\"");
            for (String out : RULED_OUT) {
                if (Pattern.compile(out).matcher(code).find()) {
                    say("line " + (i + 1) + " holds " + out + ": " + line);
                }
            }
            if (code.startsWith("import ") && !code.equals("import java.util.NoSuchElementException;")) {
                say("line " + (i + 1) + ": " + line);
            }
            Matcher made = madeWell.matcher(code);
            if (code.contains("new ") && !made.find()) {
                say("line " + (i + 1) + " makes an object outside a constructor: " + line);
            }
            if (line.chars().anyMatch(c -> c > 126) || line.length() > 110) {
                say("line " + (i + 1) + " is too long or holds a strange sign");
            }
            if (code.matches("^( {4}| {8})\\S.*\\) (throws \\w+ )?\\{$")) {
                begun = i;
            }
            if (code.matches("^( {4}| {8})}$") && i - begun > 60) {
                say("the method that ends in line " + (i + 1) + " is too long");
            }
        }
    }
}
