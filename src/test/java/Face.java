import java.lang.reflect.Constructor;
import java.lang.reflect.Field;
import java.lang.reflect.Method;
import java.lang.reflect.Modifier;
import java.util.ArrayList;
import java.util.List;
import java.util.Set;
import java.util.TreeSet;

/** The document's public face, line by line, and the class's own as lines of the same form. */
final class Face {
    static final List<String> LINES = List.of(
            "public static final int NONE = -1;",
            "public FeederShares();",
            "public int feed(long a, long b, long c);",
            "public int grid();",
            "public int work();",
            "public int meter(int meter, int what);",
            "public int with(int meter, int slot);",
            "public int says(int meter, int place);",
            "public int read(int meter, int place, int says);",
            "public int move(int meter, int supplier, int slot);",
            "public int total(int slot, int units);",
            "public int run();",
            "public boolean undo();",
            "public int judged(int what) throws NoSuchElementException;",
            "public int use(int meter, int slot) throws NoSuchElementException;",
            "public int gross(int meter, int slot) throws NoSuchElementException;",
            "public int load(int kind, int slot) throws NoSuchElementException;",
            "public int residual(int slot) throws NoSuchElementException;",
            "public int smear(int kind, int slot) throws NoSuchElementException;",
            "public int net(int meter, int slot) throws NoSuchElementException;",
            "public int share(int supplier, int slot) throws NoSuchElementException;",
            "public int sum(int supplier) throws NoSuchElementException;",
            "public int gaps(int meter);",
            "public int stands(int meter, int place);",
            "public int proof(int slot) throws NoSuchElementException;",
            "public int worst();",
            "public int lost();",
            "public int settled(int run, int supplier, int slot) throws NoSuchElementException;",
            "public int difference(int run, int supplier, int slot) throws NoSuchElementException;",
            "public int drift(int supplier) throws NoSuchElementException;",
            "public int accounts();",
            "public int account(int i, int what) throws NoSuchElementException;",
            "public int owes(int supplier, int kind) throws NoSuchElementException;",
            "public int swing(int meter, int place, int says, int supplier) throws NoSuchElementException;",
            "public int gains(int meter, int supplier) throws NoSuchElementException;",
            "public int bears(int meter);",
            "public int heaviest();",
            "public boolean see(int slot, int units, boolean more);",
            "public int who();",
            "public int ask();",
            "public int days(int seed, int many, int what) throws NoSuchElementException;",
            "public boolean mark(int mark, boolean back);",
            "public int count(int what);");

    private Face() {
    }

    /** A line without the names of its parameters, which a compiled class doesn't tell. */
    static String withoutNames(String line) {
        return line.replaceAll("(int|long|boolean) \\w+(?=[,)])", "$1");
    }

    /** All that the class shows to those outside it, in the form of withoutNames. */
    static Set<String> ofTheClass() throws IllegalAccessException {
        Set<String> lines = new TreeSet<>();
        for (Field field : FeederShares.class.getDeclaredFields()) {
            if (!Modifier.isPrivate(field.getModifiers()) && !field.isSynthetic()) {
                lines.add(Modifier.toString(field.getModifiers()) + " " + field.getType().getSimpleName() + " " + field.getName()
                        + (Modifier.isStatic(field.getModifiers()) ? " = " + field.get(null) : "") + ";");
            }
        }
        for (Constructor<?> maker : FeederShares.class.getDeclaredConstructors()) {
            if (!Modifier.isPrivate(maker.getModifiers())) {
                lines.add(line(maker.getModifiers(), "FeederShares", maker.getParameterTypes(), maker.getExceptionTypes()));
            }
        }
        for (Method method : FeederShares.class.getDeclaredMethods()) {
            if (!Modifier.isPrivate(method.getModifiers()) && !method.isSynthetic()) {
                lines.add(line(method.getModifiers(), method.getReturnType().getSimpleName() + " " + method.getName(),
                        method.getParameterTypes(), method.getExceptionTypes()));
            }
        }
        return lines;
    }

    private static String line(int modifiers, String name, Class<?>[] takes, Class<?>[] refuses) {
        return Modifier.toString(modifiers) + " " + name + "(" + names(takes) + ")"
                + (refuses.length == 0 ? "" : " throws " + names(refuses)) + ";";
    }

    private static String names(Class<?>[] types) {
        List<String> names = new ArrayList<>();
        for (Class<?> type : types) {
            names.add(type.getSimpleName());
        }
        return String.join(", ", names);
    }
}
