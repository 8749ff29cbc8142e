import java.io.IOException;
import java.lang.reflect.Constructor;
import java.lang.reflect.Field;
import java.lang.reflect.Method;
import java.lang.reflect.Modifier;
import java.nio.file.Files;
import java.nio.file.Path;
import java.util.ArrayList;
import java.util.Collections;
import java.util.List;
import java.util.Set;
import java.util.TreeSet;
import java.util.regex.Matcher;
import java.util.regex.Pattern;

/** The rules of LANGUAGE.md that can be seen from the class and its text. */
public final class LanguageTest {
    private static final String FACE = """
            int feed(long, long, long)
            int grid()
            int work()
            int meter(int, int)
            int with(int, int)
            int says(int, int)
            int read(int, int, int)
            int move(int, int, int)
            int total(int, int)
            int run()
            boolean undo()
            int judged(int) NoSuchElementException
            int use(int, int) NoSuchElementException
            int gross(int, int) NoSuchElementException
            int load(int, int) NoSuchElementException
            int residual(int) NoSuchElementException
            int smear(int, int) NoSuchElementException
            int net(int, int) NoSuchElementException
            int share(int, int) NoSuchElementException
            int sum(int) NoSuchElementException
            int gaps(int)
            int stands(int, int)
            int proof(int) NoSuchElementException
            int worst()
            int lost()
            int settled(int, int, int) NoSuchElementException
            int difference(int, int, int) NoSuchElementException
            int drift(int) NoSuchElementException
            int accounts()
            int account(int, int) NoSuchElementException
            int owes(int, int) NoSuchElementException
            int swing(int, int, int, int) NoSuchElementException
            int gains(int, int) NoSuchElementException
            int bears(int)
            int heaviest()
            boolean see(int, int, boolean)
            int who()
            int ask()
            int days(int, int, int) NoSuchElementException
            boolean mark(int, boolean)
            int count(int)
            """;
    private static final String[] RULED_OUT = {"->", "::", "\\bfinally\\b", "\\bsynchronized\\b", "\\bassert\\b", "\\bcatch\\b",
        "\\btry\\b", "Exact\\(", "\\bdouble\\b", "\\bfloat\\b", "\\bSystem\\b", "\\bString\\.", "\\bInteger\\.(?!bitCount\\b|compare\\b|MAX|MIN)",
        "\\bequals\\(", "\\bhashCode\\b", "\\btoString\\b", "\\brecord\\b", "static \\{", "\\bArrays\\b", "\\bordinal\\b"};

    private static int wrong = 0;

    private static void say(String what) {
        wrong++;
        System.out.println(what);
    }

    public static void main(String[] args) throws IOException {
        face();
        insides();
        text();
        System.out.println("LanguageTest: " + wrong + " faults");
        System.exit(wrong == 0 ? 0 : 1);
    }

    private static void face() {
        Set<String> due = new TreeSet<>(List.of(FACE.strip().split("\n")));
        Set<String> got = new TreeSet<>();
        Set<String> names = new TreeSet<>();
        for (Method m : FeederShares.class.getDeclaredMethods()) {
            if (Modifier.isPublic(m.getModifiers())) {
                List<String> types = new ArrayList<>();
                for (Class<?> type : m.getParameterTypes()) {
                    types.add(type.getSimpleName());
                }
                StringBuilder b = new StringBuilder(m.getReturnType().getSimpleName() + " " + m.getName() + "(" + String.join(", ", types) + ")");
                for (Class<?> e : m.getExceptionTypes()) {
                    b.append(' ').append(e.getSimpleName());
                }
                got.add(b.toString());
                names.add(m.getName());
            } else if (!Modifier.isPrivate(m.getModifiers())) {
                say(m + " is not private");
            }
        }
        if (!due.equals(got)) {
            say("the face is " + got);
        }
        privates(FeederShares.class, names);
        for (Class<?> inside : FeederShares.class.getDeclaredClasses()) {
            privates(inside, names);
        }
        for (Field f : FeederShares.class.getDeclaredFields()) {
            if (!f.getName().equals("NONE") && !Modifier.isPrivate(f.getModifiers())) {
                say(f + " is not private");
            }
        }
        Constructor<?>[] makers = FeederShares.class.getDeclaredConstructors();
        if (makers.length != 1 || !Modifier.isPublic(makers[0].getModifiers()) || makers[0].getParameterCount() != 0) {
            say("there must be one constructor, public and without parameters");
        }
    }

    private static void privates(Class<?> type, Set<String> names) {
        for (Method m : type.getDeclaredMethods()) {
            if (!Modifier.isPublic(m.getModifiers()) && names.contains(m.getName())) {
                say(m + " bears the name of a public one");
            }
            if (m.getParameterCount() > 7) {
                say(m + " takes too many parameters");
            }
        }
    }

    private static void insides() {
        List<Class<?>> all = new ArrayList<>(List.of(FeederShares.class.getDeclaredClasses()));
        Collections.addAll(all, FeederShares.class);
        if (all.size() > 12) {
            say(all.size() + " classes");
        }
        for (Class<?> type : all) {
            int fields = 0;
            for (Field f : type.getDeclaredFields()) {
                boolean fixed = Modifier.isStatic(f.getModifiers());
                fields += fixed ? 0 : 1;
                if (fixed && !Modifier.isFinal(f.getModifiers())) {
                    say(f + " is not final");
                }
            }
            if (fields > 20) {
                say(type + " has " + fields + " fields");
            }
            if (type != FeederShares.class && Modifier.isPublic(type.getModifiers())) {
                say(type + " is public");
            }
        }
    }

    private static void text() throws IOException {
        List<String> lines = Files.readAllLines(Path.of("src/main/java/FeederShares.java"));
        Pattern madeWell = Pattern.compile("throw new NoSuchElementException\\(\\);|private final \\S+ \\w+ = new |^        \\w+ = new \\w+\\(\\w*\\);|"
                + "^            cells = new int\\[size < 0 \\? 0 : size\\];");
        int begun = 0;
        for (int i = 0; i < lines.size(); i++) {
            String line = lines.get(i);
            String code = line.replaceAll("//.*|/\\*\\*.*|^ +\\*.*", "").replaceAll("\"[^\"]*\"", "\"\"");
            for (String out : RULED_OUT) {
                if (Pattern.compile(out).matcher(code).find()) {
                    say("line " + (i + 1) + " holds " + out + ": " + line);
                }
            }
            if (code.startsWith("import ") && !code.equals("import java.util.NoSuchElementException;")) {
                say("line " + (i + 1) + ": " + line);
            }
            Matcher made = madeWell.matcher(code);
            if (code.contains("new ") && !made.find()) {
                say("line " + (i + 1) + " makes an object outside a constructor: " + line);
            }
            if (line.chars().anyMatch(c -> c > 126) || line.length() > 110) {
                say("line " + (i + 1) + " is too long or holds a strange sign");
            }
            if (code.matches("^( {4}| {8})\\S.*\\) (throws \\w+ )?\\{$")) {
                begun = i;
            }
            if (code.matches("^( {4}| {8})}$") && i - begun > 60) {
                say("the method that ends in line " + (i + 1) + " is too long");
            }
        }
    }
}
