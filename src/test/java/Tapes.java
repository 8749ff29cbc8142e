import java.util.ArrayList;
import java.util.List;

/** Texts for the TAPE, most of them right, some wrong in one place or more. */
final class Tapes {
    private final Dice dice;
    private List<String> classes = new ArrayList<>();
    private List<String> suppliers = new ArrayList<>();
    private List<String> meters = new ArrayList<>();
    private List<Integer> kinds = new ArrayList<>();
    private int slots;

    Tapes(Dice dice) {
        this.dice = dice;
    }

    private static final String[] KINDS = {"interval", "register", "flat", "export"};
    private static final String[] NAMES = {"a", "b", "home", "shop", "load", "slot", "many", "k", "zz",
        "abcdefgh", "x", "y", "z", "mm", "nn", "oo", "pp", "qq", "ss", "tt"};

    private String fresh(List<String> taken) {
        for (int i = 0; i < 50; i++) {
            String name = dice.of(NAMES);
            if (!taken.contains(name) || dice.once(60)) {
                taken.add(name);
                return name;
            }
        }
        return "last";
    }

    String grid() {
        List<String> parts = new ArrayList<>();
        List<String> taken = new ArrayList<>();
        classes = new ArrayList<>();
        suppliers = new ArrayList<>();
        meters = new ArrayList<>();
        kinds = new ArrayList<>();
        slots = dice.once(12) ? 0 : dice.from(1, dice.once(3) ? 12 : 5);
        if (slots > 0) {
            parts.add("slots " + slots + " ;");
        }
        if (!dice.once(8)) {
            parts.add("feeder" + numbers(dice.from(1, dice.once(20) ? 13 : 12), dice.once(2) ? 300 : 9999) + " ;");
        }
        if (!dice.once(5)) {
            parts.add("smears " + law(0) + " ;");
        }
        if (dice.once(2)) {
            java.util.Collections.reverse(parts);
        }
        int many = dice.from(dice.once(10) ? 0 : 1, dice.once(25) ? 5 : 4);
        for (int i = 0; i < many; i++) {
            classes.add(fresh(taken));
            String loss = " loss " + (dice.once(3) ? 0 : dice.below(dice.once(60) ? 1100 : 1000));
            String profile = " profile" + numbers(dice.from(1, dice.once(40) ? 13 : 12), dice.once(60) ? 110 : dice.once(4) ? 0 : dice.once(2) ? 2 : 99);
            parts.add(dice.below(parts.size() + 1), "class " + classes.get(i) + loss + profile + " ;");
        }
        many = dice.from(dice.once(10) ? 0 : 1, dice.once(25) ? 5 : 4);
        for (int i = 0; i < many; i++) {
            suppliers.add(fresh(taken));
            parts.add(dice.below(parts.size() + 1), "supplier " + suppliers.get(i) + " ;");
        }
        // The order of classes and suppliers is that of their lines, which were mixed.
        many = classes.isEmpty() || suppliers.isEmpty() ? 0 : dice.from(dice.once(10) ? 0 : 1, dice.once(25) ? 7 : 6);
        for (int i = 0; i < many; i++) {
            int kind = dice.below(4);
            meters.add(fresh(taken));
            kinds.add(kind);
            parts.add("meter " + meters.get(i) + " " + KINDS[kind] + " class " + dice.of(classes.toArray(new String[0]))
                    + " with " + dice.of(suppliers.toArray(new String[0])) + " ;");
        }
        return spoilt(String.join(dice.of(" ", " ", "\n", "  "), parts));
    }

    private String numbers(int many, int most) {
        StringBuilder b = new StringBuilder();
        for (int i = 0; i < many; i++) {
            b.append(' ').append(dice.below(most + 1));
        }
        return b.toString();
    }

    /** An E, now and then one PART deeper than may be. */
    String law(int depth) {
        StringBuilder b = new StringBuilder(test(depth));
        for (int i = dice.below(3); i > 1; i--) {
            b.append(dice.of(" and ", " or ")).append(test(depth));
        }
        return b.toString();
    }

    private String test(int depth) {
        return dice.once(4) ? addition(depth) + dice.of(" < ", " = ", "<", "=") + addition(depth) : addition(depth);
    }

    private String addition(int depth) {
        StringBuilder b = new StringBuilder(product(depth));
        for (int i = dice.below(4); i > 1; i--) {
            b.append(dice.of(" + ", " - ", "-", "+")).append(product(depth));
        }
        return b.toString();
    }

    private String product(int depth) {
        StringBuilder b = new StringBuilder(part(depth));
        for (int i = dice.below(4); i > 2; i--) {
            b.append(dice.of(" * ", "*")).append(part(depth));
        }
        return b.toString();
    }

    private String part(int depth) {
        int most = dice.once(30) ? 5 : 4;
        switch (depth >= most ? dice.below(5) : dice.below(8)) {
            case 0:
                return "load";
            case 1:
                return "loss";
            case 2:
                return "slot";
            case 3:
                return "many";
            case 4:
                return String.valueOf(dice.below(dice.once(2) ? 5 : 10000));
            case 5:
                return "not " + part(depth + 1);
            default:
                return "(" + law(depth + 1) + ")";
        }
    }

    String work() {
        StringBuilder b = new StringBuilder();
        int many = dice.from(0, dice.once(10) ? 32 : 12);
        for (int i = 0; i < many; i++) {
            b.append(line()).append(dice.of(" ;", ";", ";\n"));
        }
        return spoilt(b.toString());
    }

    private String line() {
        int slot = slots <= 0 ? 0 : dice.below(slots + (dice.once(80) ? 2 : 0));
        String meter = meters.isEmpty() || dice.once(150) ? "zz" : dice.of(meters.toArray(new String[0]));
        switch (dice.below(5)) {
            case 0:
                return "run";
            case 1:
                return "total " + slot + " " + dice.below(10000);
            case 2:
                return "move " + meter + " " + (suppliers.isEmpty() ? "ss" : dice.of(suppliers.toArray(new String[0]))) + " " + slot;
            default:
                return "read " + meter + " " + slot + " " + dice.below(dice.once(60) ? 1100 : 1000);
        }
    }

    /** Now and then a sign is lost, put in or another one, or a piece is told twice or not at all. */
    private String spoilt(String text) {
        String t = text;
        for (int i = dice.once(4) ? dice.from(1, 2) : 0; i > 0 && !t.isEmpty(); i--) {
            int at = dice.below(t.length());
            int to = Math.min(t.length(), at + dice.from(1, 12));
            switch (dice.below(6)) {
                case 0:
                    t = t.substring(0, at) + t.substring(at + 1);
                    break;
                case 1:
                    t = t.substring(0, at) + (char) dice.from(32, 126) + t.substring(at);
                    break;
                case 2:
                    t = t.substring(0, at) + dice.of(" ; ", " ( ", ")", " not ", " 9 ", "99999", " and ", "<", "abcdefghi",
                            " slots ", " class ", " meter ", " supplier ", " smears ", " feeder ", " 12ab", "run;") + t.substring(at);
                    break;
                case 3:
                    t = t.substring(0, at) + t.substring(to);
                    break;
                case 4:
                    t = t.substring(0, to) + t.substring(at);
                    break;
                default:
                    t = t.substring(0, at);
                    break;
            }
        }
        return t;
    }
}
