import java.math.BigInteger;
import java.util.ArrayDeque;
import java.util.ArrayList;
import java.util.Deque;
import java.util.LinkedHashMap;
import java.util.List;
import java.util.Map;
import java.util.NoSuchElementException;
import java.util.Set;
import java.util.regex.Matcher;
import java.util.regex.Pattern;

/**
 * The document told a second time, with all of the Java library and no thought of room: what the
 * class is compared with. It shares no code and no way of working with the class.
 */
final class Model {
    private static final Set<String> KEPT = Set.of("slots", "feeder", "class", "loss", "profile",
            "supplier", "meter", "with", "smears", "read", "move", "total", "run", "interval",
            "register", "flat", "export", "not", "and", "or");
    private static final List<String> KINDS = List.of("interval", "register", "flat", "export");
    private static final Pattern TOKEN = Pattern.compile("[a-z]+|[0-9]+|[^ \n]");

    private static final class Fault extends RuntimeException {
        private static final long serialVersionUID = 1L;
        final int kind;

        Fault(int kind) {
            super("fault " + kind, null, false, false);
            this.kind = kind;
        }
    }

    private interface Expr {
        int of(int load, int loss, int slot, int many);
    }

    private record Clazz(String name, int loss, List<Integer> profile) { }

    private record Meter(String name, int kind, int group, int supplier) { }

    private static final class Grid {
        int slots;
        List<Integer> feeder = new ArrayList<>();
        final List<Clazz> classes = new ArrayList<>();
        final List<String> suppliers = new ArrayList<>();
        final List<Meter> meters = new ArrayList<>();
        Expr law = (load, loss, slot, many) -> load;

        boolean told(String name) {
            return classOf(name) >= 0 || suppliers.contains(name) || meterOf(name) >= 0;
        }

        int classOf(String name) {
            return classes.stream().map(Clazz::name).toList().indexOf(name);
        }

        int meterOf(String name) {
            return meters.stream().map(Meter::name).toList().indexOf(name);
        }
    }

    private record Run(int[][] shares, Map<List<Integer>, Integer> accounts) { }

    private static final class State {
        List<Map<Integer, Integer>> said = new ArrayList<>();
        List<int[]> with = new ArrayList<>();
        int[] feeder = new int[0];
        List<Run> runs = new ArrayList<>();
        List<int[]> seen = new ArrayList<>();

        State copy() {
            State c = new State();
            said.forEach(m -> c.said.add(new LinkedHashMap<>(m)));
            with.forEach(w -> c.with.add(w.clone()));
            c.feeder = feeder.clone();
            c.runs = new ArrayList<>(runs);
            c.seen = new ArrayList<>(seen);
            return c;
        }
    }

    /** All that there is of a slot. */
    private static final class Slot {
        int[] use;
        int[] gross;
        int[] load;
        int residual;
        int[] smear;
        int[] net;
        int[] share;
        int proof;
    }

    private String tape = "";
    private Grid grid = new Grid();
    private State state = new State();
    private List<int[]> work = new ArrayList<>();
    private final Deque<State> undone = new ArrayDeque<>();
    private final State[] marks = new State[2];
    private int books;

    // ---- tokens

    private String text = "";
    private final List<String> tokens = new ArrayList<>();
    private final List<Integer> places = new ArrayList<>();
    private int at;

    private void cut() {
        text = tape;
        tape = "";
        tokens.clear();
        places.clear();
        at = 0;
        Matcher m = TOKEN.matcher(text);
        while (m.find()) {
            String t = m.group();
            boolean ok = t.matches("[a-z]{1,8}|[0-9]{1,4}|[()<=+*;-]");
            tokens.add(ok ? t : "?");
            places.add(m.start());
        }
        tokens.add("");
        places.add(text.length());
    }

    private String peek() {
        return tokens.get(at);
    }

    private boolean isNumber() {
        return peek().matches("[0-9]+");
    }

    private boolean isName() {
        return peek().matches("[a-z]+") && !KEPT.contains(peek());
    }

    private void must(String t) {
        if (!peek().equals(t)) {
            throw new Fault(1);
        }
        at++;
    }

    private int numberIn(int low, int high) {
        if (!isNumber()) {
            throw new Fault(1);
        }
        int n = Integer.parseInt(peek());
        if (n < low || n > high) {
            throw new Fault(4);
        }
        at++;
        return n;
    }

    private List<Integer> numbersIn(int high) {
        List<Integer> all = new ArrayList<>();
        do {
            if (isNumber() && all.size() == 12 && Integer.parseInt(peek()) <= high) {
                throw new Fault(5);
            }
            all.add(numberIn(0, high));
        } while (isNumber());
        return all;
    }

    private String newName(Grid g) {
        if (!isName()) {
            throw new Fault(1);
        }
        if (g.told(peek())) {
            throw new Fault(3);
        }
        return tokens.get(at++);
    }

    private int known(List<String> names) {
        if (!isName()) {
            throw new Fault(1);
        }
        int i = names.indexOf(peek());
        if (i < 0) {
            throw new Fault(2);
        }
        at++;
        return i;
    }

    private int faulty(Fault f) {
        return f.kind + 16 * places.get(at);
    }

    // ---- E, by recursion

    private Expr expr(int depth) {
        Expr left = test(depth);
        while (peek().equals("and") || peek().equals("or")) {
            boolean and = tokens.get(at++).equals("and");
            Expr a = left;
            Expr b = test(depth);
            left = (l, o, s, m) -> {
                boolean x = a.of(l, o, s, m) != 0;
                boolean y = b.of(l, o, s, m) != 0;
                return (and ? x && y : x || y) ? 1 : 0;
            };
        }
        return left;
    }

    private Expr test(int depth) {
        Expr a = sum0(depth);
        if (peek().equals("<") || peek().equals("=")) {
            boolean less = tokens.get(at++).equals("<");
            Expr b = sum0(depth);
            return (l, o, s, m) -> {
                int x = a.of(l, o, s, m);
                int y = b.of(l, o, s, m);
                return (less ? x < y : x == y) ? 1 : 0;
            };
        }
        return a;
    }

    private Expr sum0(int depth) {
        Expr left = product(depth);
        while (peek().equals("+") || peek().equals("-")) {
            int sign = tokens.get(at++).equals("+") ? 1 : -1;
            Expr a = left;
            Expr b = product(depth);
            left = (l, o, s, m) -> a.of(l, o, s, m) + sign * b.of(l, o, s, m);
        }
        return left;
    }

    private Expr product(int depth) {
        Expr left = part(depth);
        while (peek().equals("*")) {
            at++;
            Expr a = left;
            Expr b = part(depth);
            left = (l, o, s, m) -> a.of(l, o, s, m) * b.of(l, o, s, m);
        }
        return left;
    }

    private Expr part(int depth) {
        String t = peek();
        boolean begins = isNumber() || List.of("load", "loss", "slot", "many", "not", "(").contains(t);
        if (!begins) {
            throw new Fault(1);
        }
        if (depth == 5) {
            throw new Fault(5);
        }
        at++;
        switch (t) {
            case "load":
                return (l, o, s, m) -> l;
            case "loss":
                return (l, o, s, m) -> o;
            case "slot":
                return (l, o, s, m) -> s;
            case "many":
                return (l, o, s, m) -> m;
            case "not": {
                Expr a = part(depth + 1);
                return (l, o, s, m) -> a.of(l, o, s, m) == 0 ? 1 : 0;
            }
            case "(": {
                Expr a = expr(depth + 1);
                must(")");
                return a;
            }
            default: {
                int n = Integer.parseInt(t);
                return (l, o, s, m) -> n;
            }
        }
    }

    // ---- the face

    int feed(long a, long b, long c) {
        for (long v : new long[] {a, b, c}) {
            for (byte x : BigInteger.valueOf(v).and(BigInteger.ONE.shiftLeft(64).subtract(BigInteger.ONE))
                    .add(BigInteger.ONE.shiftLeft(64)).toByteArray()) {
                feedSign(x & 255);
            }
        }
        return tape.length();
    }

    /** The leading 1 of each long's bytes is no sign of the TAPE, so it is left out with the rest. */
    private void feedSign(int sign) {
        if ((sign == 10 || sign >= 32 && sign <= 126) && tape.length() < 1000) {
            tape += (char) sign;
        }
    }

    int grid() {
        cut();
        Grid g = new Grid();
        boolean feeder = false;
        boolean law = false;
        try {
            while (!peek().isEmpty()) {
                switch (peek()) {
                    case "slots":
                        if (g.slots > 0) {
                            throw new Fault(3);
                        }
                        at++;
                        g.slots = numberIn(1, 12);
                        break;
                    case "feeder":
                        if (feeder) {
                            throw new Fault(3);
                        }
                        feeder = true;
                        at++;
                        g.feeder = numbersIn(9999);
                        break;
                    case "class": {
                        if (g.classes.size() == 4) {
                            throw new Fault(5);
                        }
                        at++;
                        String name = newName(g);
                        must("loss");
                        int loss = numberIn(0, 999);
                        must("profile");
                        g.classes.add(new Clazz(name, loss, numbersIn(99)));
                        break;
                    }
                    case "supplier":
                        if (g.suppliers.size() == 4) {
                            throw new Fault(5);
                        }
                        at++;
                        g.suppliers.add(newName(g));
                        break;
                    case "meter": {
                        if (g.meters.size() == 6) {
                            throw new Fault(5);
                        }
                        at++;
                        String name = newName(g);
                        int kind = KINDS.indexOf(peek());
                        if (kind < 0) {
                            throw new Fault(1);
                        }
                        at++;
                        must("class");
                        int group = known(g.classes.stream().map(Clazz::name).toList());
                        must("with");
                        g.meters.add(new Meter(name, kind, group, known(g.suppliers)));
                        break;
                    }
                    case "smears":
                        if (law) {
                            throw new Fault(3);
                        }
                        law = true;
                        at++;
                        g.law = expr(0);
                        break;
                    default:
                        throw new Fault(1);
                }
                must(";");
            }
        } catch (Fault f) {
            return faulty(f);
        }
        grid = g;
        state = fresh();
        work = new ArrayList<>();
        undone.clear();
        marks[0] = null;
        marks[1] = null;
        books = 0;
        return 0;
    }

    private State fresh() {
        State s = new State();
        s.feeder = new int[grid.slots];
        for (int i = 0; i < grid.slots && i < grid.feeder.size(); i++) {
            s.feeder[i] = grid.feeder.get(i);
        }
        for (Meter m : grid.meters) {
            s.said.add(new LinkedHashMap<>());
            int[] w = new int[grid.slots];
            java.util.Arrays.fill(w, m.supplier());
            s.with.add(w);
        }
        return s;
    }

    int work() {
        cut();
        List<int[]> all = new ArrayList<>();
        List<String> meters = grid.meters.stream().map(Meter::name).toList();
        try {
            while (!peek().isEmpty()) {
                String first = peek();
                if (!List.of("read", "move", "total", "run").contains(first)) {
                    throw new Fault(1);
                }
                if (all.size() == 30) {
                    throw new Fault(5);
                }
                at++;
                if (first.equals("read")) {
                    int m = known(meters);
                    boolean register = grid.meters.get(m).kind() == 1;
                    int place = numberIn(0, register ? grid.slots : grid.slots - 1);
                    all.add(new int[] {0, m, place, numberIn(0, register ? 9999 : 999)});
                } else if (first.equals("move")) {
                    int m = known(meters);
                    int s = known(grid.suppliers);
                    all.add(new int[] {1, m, s, numberIn(0, grid.slots - 1)});
                } else if (first.equals("total")) {
                    int s = numberIn(0, grid.slots - 1);
                    all.add(new int[] {2, s, numberIn(0, 9999)});
                } else {
                    all.add(new int[] {3});
                }
                must(";");
            }
        } catch (Fault f) {
            return faulty(f);
        }
        work = all;
        return 0;
    }

    private boolean isMeter(int m) {
        return m >= 0 && m < grid.meters.size();
    }

    private boolean isSupplier(int s) {
        return s >= 0 && s < grid.suppliers.size();
    }

    private boolean isClass(int k) {
        return k >= 0 && k < grid.classes.size();
    }

    private boolean isSlot(int s) {
        return s >= 0 && s < grid.slots;
    }

    private boolean isRegister(int m) {
        return grid.meters.get(m).kind() == 1;
    }

    private boolean isPlace(int m, int p) {
        return isMeter(m) && p >= 0 && p < grid.slots + (isRegister(m) ? 1 : 0);
    }

    private boolean isSaid(int m, int says) {
        return says >= 0 && says <= (isRegister(m) ? 9999 : 999);
    }

    private static void demand(boolean all) {
        if (!all) {
            throw new NoSuchElementException();
        }
    }

    int meter(int m, int what) {
        if (!isMeter(m) || what < 0 || what > 2) {
            return -1;
        }
        Meter x = grid.meters.get(m);
        return what == 0 ? x.kind() : what == 1 ? x.group() : state.said.get(m).size();
    }

    int with(int m, int slot) {
        return isMeter(m) && isSlot(slot) ? state.with.get(m)[slot] : -1;
    }

    int says(int m, int place) {
        return isPlace(m, place) ? state.said.get(m).getOrDefault(place, -1) : -1;
    }

    private void remember() {
        undone.addLast(state.copy());
        if (undone.size() > 8) {
            undone.removeFirst();
        }
    }

    int read(int m, int place, int says) {
        if (!isPlace(m, place) || !isSaid(m, says)) {
            return -2;
        }
        remember();
        Integer was = state.said.get(m).put(place, says);
        return was == null ? -1 : was;
    }

    int move(int m, int supplier, int slot) {
        if (!isMeter(m) || !isSupplier(supplier) || !isSlot(slot)) {
            return -1;
        }
        remember();
        int was = state.with.get(m)[slot];
        java.util.Arrays.fill(state.with.get(m), slot, grid.slots, supplier);
        return was;
    }

    int total(int slot, int units) {
        if (!isSlot(slot) || units < 0 || units > 9999) {
            return -1;
        }
        remember();
        int was = state.feeder[slot];
        state.feeder[slot] = units;
        return was;
    }

    int run() {
        if (state.runs.size() >= 4) {
            return -1;
        }
        remember();
        int[][] shares = new int[grid.slots][];
        int[][] nets = new int[grid.slots][];
        for (int s = 0; s < grid.slots; s++) {
            Slot x = slot(state, s);
            shares[s] = x.share;
            nets[s] = x.net;
        }
        Map<List<Integer>, Integer> accounts = new LinkedHashMap<>();
        for (int m = 0; m < grid.meters.size(); m++) {
            for (int s = 0; s < grid.slots; s++) {
                List<Integer> key = List.of(state.with.get(m)[s], grid.meters.get(m).group());
                accounts.merge(key, nets[s][m], Integer::sum);
            }
        }
        state.runs.add(new Run(shares, accounts));
        return state.runs.size() - 1;
    }

    boolean undo() {
        if (undone.isEmpty()) {
            return false;
        }
        List<int[]> seen = state.seen;
        state = undone.removeLast();
        state.seen = seen;
        return true;
    }

    int judged(int what) {
        demand(what >= 0 && what <= 2);
        State s = fresh();
        int runs = 0;
        int first = -1;
        for (int i = 0; i < work.size(); i++) {
            int[] w = work.get(i);
            if (w[0] == 0) {
                s.said.get(w[1]).put(w[2], w[3]);
            } else if (w[0] == 1) {
                java.util.Arrays.fill(s.with.get(w[1]), w[3], grid.slots, w[2]);
            } else if (w[0] == 2) {
                s.feeder[w[1]] = w[2];
            } else if (runs < 4) {
                runs++;
            } else if (first < 0) {
                first = i;
            }
        }
        return what == 0 ? first : what == 1 ? runs : all(s);
    }

    // ---- settlement

    private int useOf(State st, int m, int slot) {
        Map<Integer, Integer> said = st.said.get(m);
        int from = said.keySet().stream().filter(p -> p <= slot).max(Integer::compare).orElse(-1);
        if (!isRegister(m)) {
            int use = from < 0 ? 0 : said.get(from);
            return grid.meters.get(m).kind() == 3 ? -use : use;
        }
        int to = said.keySet().stream().filter(p -> p > slot).min(Integer::compare).orElse(-1);
        return from < 0 || to < 0 ? 0 : cutOf(st, m, from, to)[slot - from];
    }

    /** What each slot between two places has of the ADVANCE. */
    private int[] cutOf(State st, int m, int from, int to) {
        int advance = st.said.get(m).get(to) - st.said.get(m).get(from);
        advance += advance < 0 ? 10000 : 0;
        List<Integer> profile = grid.classes.get(grid.meters.get(m).group()).profile();
        int[] weights = new int[to - from];
        int all = 0;
        for (int s = from; s < to; s++) {
            weights[s - from] = profile.get(s % profile.size());
            all += weights[s - from];
        }
        if (all == 0) {
            java.util.Arrays.fill(weights, 1);
            all = weights.length;
        }
        int[] parts = new int[to - from];
        int sofar = 0;
        int given = 0;
        for (int i = 0; i < parts.length; i++) {
            sofar += weights[i];
            parts[i] = advance * sofar / all - given;
            given += parts[i];
        }
        return parts;
    }

    private static int[] sharedOut(int number, int[] weights) {
        int[] parts = new int[weights.length];
        long all = 0;
        for (int w : weights) {
            all += w;
        }
        if (all == 0) {
            return parts;
        }
        long size = Math.abs((long) number);
        List<Integer> order = new ArrayList<>();
        long left = size;
        for (int i = 0; i < parts.length; i++) {
            parts[i] = (int) (size * weights[i] / all);
            left -= parts[i];
            order.add(i);
        }
        long total = all;
        order.sort((i, j) -> Long.compare(size * weights[j] % total, size * weights[i] % total));
        for (int i = 0; i < left; i++) {
            parts[order.get(i)]++;
        }
        for (int i = 0; i < parts.length; i++) {
            parts[i] *= number < 0 ? -1 : 1;
        }
        return parts;
    }

    private Slot slot(State st, int s) {
        int meters = grid.meters.size();
        int classes = grid.classes.size();
        Slot x = new Slot();
        x.use = new int[meters];
        x.gross = new int[meters];
        x.load = new int[classes];
        x.residual = st.feeder[s];
        int[] many = new int[classes];
        for (int m = 0; m < meters; m++) {
            int k = grid.meters.get(m).group();
            x.use[m] = useOf(st, m, s);
            x.gross[m] = BigInteger.valueOf(x.use[m]).multiply(BigInteger.valueOf(1000 + grid.classes.get(k).loss()))
                    .divide(BigInteger.valueOf(1000)).intValue();
            x.load[k] += x.gross[m];
            many[k]++;
            x.residual -= x.gross[m];
        }
        int[] weights = new int[classes];
        for (int k = 0; k < classes; k++) {
            int w = grid.law.of(x.load[k], grid.classes.get(k).loss(), s, many[k]);
            weights[k] = many[k] == 0 ? 0 : Math.max(0, Math.min(9999, w));
        }
        x.smear = sharedOut(x.residual, weights);
        x.net = x.gross.clone();
        for (int k = 0; k < classes; k++) {
            List<Integer> members = new ArrayList<>();
            for (int m = 0; m < meters; m++) {
                if (grid.meters.get(m).group() == k) {
                    members.add(m);
                }
            }
            int[] by = members.stream().mapToInt(m -> Math.abs(x.gross[m])).toArray();
            if (java.util.Arrays.stream(by).sum() == 0) {
                java.util.Arrays.fill(by, 1);
            }
            int[] parts = sharedOut(x.smear[k], by);
            for (int i = 0; i < members.size(); i++) {
                x.net[members.get(i)] += parts[i];
            }
        }
        x.share = new int[grid.suppliers.size()];
        x.proof = st.feeder[s];
        for (int m = 0; m < meters; m++) {
            x.share[st.with.get(m)[s]] += x.net[m];
            x.proof -= x.net[m];
        }
        return x;
    }

    private int sumOf(State st, int supplier) {
        int sum = 0;
        for (int s = 0; s < grid.slots; s++) {
            sum += slot(st, s).share[supplier];
        }
        return sum;
    }

    private int all(State st) {
        int sum = 0;
        for (int i = 0; i < grid.suppliers.size(); i++) {
            sum += sumOf(st, i);
        }
        return sum;
    }

    private int worstOf(State st) {
        int best = -1;
        for (int s = 0; s < grid.slots; s++) {
            if (best < 0 || Math.abs(slot(st, s).residual) > Math.abs(slot(st, best).residual)) {
                best = s;
            }
        }
        return best;
    }

    int use(int m, int s) {
        demand(isMeter(m) && isSlot(s));
        return slot(state, s).use[m];
    }

    int gross(int m, int s) {
        demand(isMeter(m) && isSlot(s));
        return slot(state, s).gross[m];
    }

    int load(int k, int s) {
        demand(isClass(k) && isSlot(s));
        return slot(state, s).load[k];
    }

    int residual(int s) {
        demand(isSlot(s));
        return slot(state, s).residual;
    }

    int smear(int k, int s) {
        demand(isClass(k) && isSlot(s));
        return slot(state, s).smear[k];
    }

    int net(int m, int s) {
        demand(isMeter(m) && isSlot(s));
        return slot(state, s).net[m];
    }

    int share(int i, int s) {
        demand(isSupplier(i) && isSlot(s));
        return slot(state, s).share[i];
    }

    int sum(int i) {
        demand(isSupplier(i));
        return sumOf(state, i);
    }

    int gaps(int m) {
        if (!isMeter(m)) {
            return -1;
        }
        int bits = 0;
        for (int s = 0; s < grid.slots; s++) {
            int slot = s;
            Set<Integer> read = state.said.get(m).keySet();
            boolean known = isRegister(m)
                    ? read.stream().anyMatch(p -> p <= slot) && read.stream().anyMatch(p -> p > slot)
                    : read.contains(s);
            bits += known ? 0 : 1 << s;
        }
        return bits;
    }

    int stands(int m, int place) {
        if (!isPlace(m, place) || !isRegister(m)) {
            return -1;
        }
        Map<Integer, Integer> said = state.said.get(m);
        if (said.containsKey(place)) {
            return said.get(place);
        }
        int from = said.keySet().stream().filter(p -> p < place).max(Integer::compare).orElse(-1);
        int to = said.keySet().stream().filter(p -> p > place).min(Integer::compare).orElse(-1);
        if (from < 0 || to < 0) {
            return -1;
        }
        int stands = said.get(from);
        int[] parts = cutOf(state, m, from, to);
        for (int i = 0; i < place - from; i++) {
            stands += parts[i];
        }
        return stands % 10000;
    }

    int proof(int s) {
        demand(isSlot(s));
        return slot(state, s).proof;
    }

    int worst() {
        return worstOf(state);
    }

    int lost() {
        int lost = 0;
        for (int s = 0; s < grid.slots; s++) {
            Slot x = slot(state, s);
            for (int m = 0; m < x.use.length; m++) {
                lost += x.gross[m] - x.use[m];
            }
        }
        return lost;
    }

    int settled(int r, int i, int s) {
        demand(r >= 0 && r < state.runs.size() && isSupplier(i) && isSlot(s));
        return state.runs.get(r).shares()[s][i];
    }

    int difference(int r, int i, int s) {
        return settled(r, i, s) - (r == 0 ? 0 : settled(r - 1, i, s));
    }

    private Run last() {
        return state.runs.isEmpty() ? null : state.runs.get(state.runs.size() - 1);
    }

    int drift(int i) {
        demand(isSupplier(i));
        if (last() == null) {
            return 0;
        }
        int drift = sumOf(state, i);
        for (int[] s : last().shares()) {
            drift -= s[i];
        }
        return drift;
    }

    int accounts() {
        return last() == null ? 0 : last().accounts().size();
    }

    int account(int i, int what) {
        demand(i >= 0 && i < accounts() && what >= 0 && what <= 2);
        Map.Entry<List<Integer>, Integer> e = new ArrayList<>(last().accounts().entrySet()).get(i);
        return what == 2 ? e.getValue() : e.getKey().get(what);
    }

    int owes(int i, int k) {
        demand(isSupplier(i) && isClass(k));
        return last() == null ? 0 : last().accounts().getOrDefault(List.of(i, k), 0);
    }

    int swing(int m, int place, int says, int i) {
        demand(isPlace(m, place) && isSupplier(i));
        books++;
        demand(isSaid(m, says));
        State t = state.copy();
        t.said.get(m).put(place, says);
        return sumOf(t, i) - sumOf(state, i);
    }

    int gains(int m, int i) {
        demand(isMeter(m) && isSupplier(i));
        books++;
        State t = state.copy();
        java.util.Arrays.fill(t.with.get(m), i);
        return sumOf(t, i) - sumOf(state, i);
    }

    int bears(int m) {
        if (!isMeter(m)) {
            return -1;
        }
        books++;
        State t = state.copy();
        t.said.get(m).clear();
        int weight = 0;
        for (int i = 0; i < grid.suppliers.size(); i++) {
            weight += Math.abs(sumOf(t, i) - sumOf(state, i));
        }
        return weight;
    }

    int heaviest() {
        List<Integer> weights = new ArrayList<>();
        for (int m = 0; m < grid.meters.size(); m++) {
            weights.add(bears(m));
        }
        return weights.isEmpty() ? -1 : weights.indexOf(java.util.Collections.max(weights));
    }

    boolean see(int s, int units, boolean more) {
        if (!isSlot(s) || units < -9999 || units > 9999 || state.seen.size() == 8) {
            return false;
        }
        state.seen.add(new int[] {s, units, more ? 1 : 0});
        return true;
    }

    private List<Integer> suspects() {
        List<Integer> who = new ArrayList<>();
        for (int i = 0; i < grid.suppliers.size(); i++) {
            int supplier = i;
            if (state.seen.stream().allMatch(x -> {
                int share = slot(state, x[0]).share[supplier];
                return x[2] == 1 ? share >= x[1] : share < x[1];
            })) {
                who.add(i);
            }
        }
        return who;
    }

    int who() {
        return suspects().stream().mapToInt(i -> 1 << i).sum();
    }

    int ask() {
        List<Integer> who = suspects();
        int least = who.size();
        int best = -1;
        for (int s = 0; s < grid.slots; s++) {
            Map<Integer, Integer> groups = new LinkedHashMap<>();
            for (int i : who) {
                groups.merge(slot(state, s).share[i], 1, Integer::sum);
            }
            int most = groups.values().stream().max(Integer::compare).orElse(0);
            if (most < least) {
                least = most;
                best = s;
            }
        }
        return best;
    }

    private long g;

    private int draw(int below) {
        g = (g * 1103515245L + 12345L) % 2147483648L;
        return (int) (g / 65536L % below);
    }

    int days(int seed, int many, int what) {
        demand(seed >= 0 && seed <= 9999 && many >= 1 && many <= 60 && what >= 0 && what <= 2);
        books++;
        State t = state.copy();
        g = seed;
        for (int d = 0; d < many && !grid.meters.isEmpty() && grid.slots > 0; d++) {
            int m = draw(grid.meters.size());
            int s = draw(grid.slots);
            t.said.get(m).put(s, draw(200));
        }
        if (what == 0) {
            return all(t);
        }
        int open = 0;
        for (int s = 0; s < grid.slots; s++) {
            open += slot(t, s).proof != 0 ? 1 : 0;
        }
        return what == 1 ? open : worstOf(t);
    }

    boolean mark(int mark, boolean back) {
        if (mark < 0 || mark > 1 || back && marks[mark] == null) {
            return false;
        }
        if (back) {
            state = marks[mark].copy();
            undone.clear();
        } else {
            marks[mark] = state.copy();
        }
        return true;
    }

    int count(int what) {
        switch (what) {
            case 0:
                return grid.slots;
            case 1:
                return grid.classes.size();
            case 2:
                return grid.suppliers.size();
            case 3:
                return grid.meters.size();
            case 4:
                return state.said.stream().mapToInt(Map::size).sum();
            case 5:
                return state.runs.size();
            case 6:
                return books;
            case 7:
                return work.size();
            case 8:
                return state.seen.size();
            case 9:
                return undone.size();
            case 10:
                return tape.length();
            default:
                return -1;
        }
    }
}
