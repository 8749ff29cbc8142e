import java.util.NoSuchElementException;

/**
 * Power settlement of one feeder: meters are brought to what the feeder brought in each slot, and
 * the residual is smeared by class. Names in capitals in the comments are those of the document.
 */
public final class FeederShares {
    public static final int NONE = -1;

    private static final int REFUSED = -2;

    private static final int MOST_SIGNS = 1000;
    private static final int MOST_LETTERS = 8;
    private static final int MOST_DIGITS = 4;
    private static final int MOST_SLOTS = 12;
    private static final int MOST_PLACES = MOST_SLOTS + 1;
    private static final int MOST_CLASSES = 4;
    private static final int MOST_SUPPLIERS = 4;
    private static final int MOST_METERS = 6;
    private static final int MOST_LINES = 30;
    private static final int MOST_RUNS = 4;
    private static final int MOST_ACCOUNTS = MOST_SUPPLIERS * MOST_CLASSES;
    private static final int MOST_UNDONE = 8;
    private static final int MOST_SEEN = 8;
    private static final int MOST_DAYS = 60;
    private static final int MOST_DEPTH = 5;
    private static final int MOST_WAITING = 64;

    private static final int HIGHEST_NUMBER = 9999;
    private static final int HIGHEST_LOSS = 999;
    private static final int HIGHEST_PROFILE = 99;
    private static final int HIGHEST_SAID = 999;
    private static final int REGISTER_ROUND = 10000;
    private static final int DAY_READINGS = 200;

    private static final int INTERVAL = 0;
    private static final int REGISTER = 1;
    private static final int FLAT = 2;
    private static final int EXPORT = 3;

    private static final int READING = 0;
    private static final int MOVING = 1;
    private static final int TOTALLING = 2;
    private static final int RUNNING = 3;

    private static final int OUT_OF_PLACE = 1;
    private static final int UNKNOWN_NAME = 2;
    private static final int TOLD_ALREADY = 3;
    private static final int WRONG_NUMBER = 4;
    private static final int ONE_TOO_MANY = 5;

    private static final Word[] WORDS = Word.values();

    private final Reader reader;
    private final Plan plan;
    private final Plan draft;
    private final Lines lines;
    private final Lines draftLines;
    private final Ledger now;
    private final Ledger tried;
    private final Ledger firstMark;
    private final Ledger secondMark;
    private final Past past;
    private final Settling settling;
    private final Row sumsNow;
    private final Row sumsTried;
    private boolean firstLaid;
    private boolean secondLaid;
    private int books;

    public FeederShares() {
        reader = new Reader();
        plan = new Plan();
        draft = new Plan();
        lines = new Lines();
        draftLines = new Lines();
        now = new Ledger();
        tried = new Ledger();
        firstMark = new Ledger();
        secondMark = new Ledger();
        past = new Past();
        settling = new Settling();
        sumsNow = new Row(MOST_SUPPLIERS);
        sumsTried = new Row(MOST_SUPPLIERS);
    }

    // ---- the TAPE, the GRID, the WORK

    public int feed(long a, long b, long c) {
        reader.tape.addBytes(a);
        reader.tape.addBytes(b);
        reader.tape.addBytes(c);
        return reader.tape.length;
    }

    public int grid() {
        int fault = reader.takeGrid(draft);
        reader.tape.clear();
        if (fault == 0) {
            plan.copyFrom(draft);
            startAnew();
        }
        return fault;
    }

    private void startAnew() {
        now.begin(plan);
        lines.many = 0;
        past.many = 0;
        books = 0;
        firstLaid = false;
        secondLaid = false;
    }

    public int work() {
        int fault = reader.takeWork(plan, draftLines);
        reader.tape.clear();
        if (fault == 0) {
            lines.copyFrom(draftLines);
        }
        return fault;
    }

    // ---- what there is

    public int meter(int meter, int what) {
        if (!plan.hasMeter(meter)) {
            return NONE;
        }
        switch (what) {
            case 0:
                return plan.kinds.get(meter);
            case 1:
                return plan.groups.get(meter);
            case 2:
                return now.countReadings(meter);
            default:
                return NONE;
        }
    }

    public int with(int meter, int slot) {
        return plan.hasMeter(meter) && plan.hasSlot(slot) ? now.supplierAt(meter, slot) : NONE;
    }

    public int says(int meter, int place) {
        return plan.hasPlace(meter, place) ? now.saidAt(meter, place) : NONE;
    }

    // ---- what is done by hand

    public int read(int meter, int place, int says) {
        if (!plan.mayRead(meter, place, says)) {
            return REFUSED;
        }
        int was = now.saidAt(meter, place);
        past.keep(now, READING, meter, place);
        now.setSaid(meter, place, says);
        return was;
    }

    public int move(int meter, int supplier, int slot) {
        if (!plan.hasMeter(meter) || !plan.hasSupplier(supplier) || !plan.hasSlot(slot)) {
            return NONE;
        }
        int was = now.supplierAt(meter, slot);
        past.keep(now, MOVING, meter, slot);
        now.setSupplier(meter, supplier, slot);
        return was;
    }

    public int total(int slot, int units) {
        if (!plan.hasSlot(slot) || units < 0 || units > HIGHEST_NUMBER) {
            return NONE;
        }
        int was = now.feeder.get(slot);
        past.keep(now, TOTALLING, 0, slot);
        now.feeder.set(slot, units);
        return was;
    }

    public int run() {
        if (now.runs >= MOST_RUNS) {
            return NONE;
        }
        past.keep(now, RUNNING, 0, 0);
        settling.layDown(plan, now);
        return now.runs - 1;
    }

    public boolean undo() {
        return past.takeBack(now);
    }

    public int judged(int what) throws NoSuchElementException {
        if (what < 0 || what > 2) {
            throw new NoSuchElementException();
        }
        tried.begin(plan);
        int stuck = NONE;
        for (int line = 0; line < lines.many; line++) {
            if (!tried.follow(lines, line) && stuck == NONE) {
                stuck = line;
            }
        }
        if (what == 0) {
            return stuck;
        }
        return what == 1 ? tried.runs : settling.allShares(plan, tried);
    }

    // ---- what a METER used, what is left of the feeder, what each SUPPLIER has

    public int use(int meter, int slot) throws NoSuchElementException {
        if (!plan.hasMeter(meter) || !plan.hasSlot(slot)) {
            throw new NoSuchElementException();
        }
        settling.settle(plan, now, slot);
        return settling.uses.get(meter);
    }

    public int gross(int meter, int slot) throws NoSuchElementException {
        if (!plan.hasMeter(meter) || !plan.hasSlot(slot)) {
            throw new NoSuchElementException();
        }
        settling.settle(plan, now, slot);
        return settling.grosses.get(meter);
    }

    public int load(int kind, int slot) throws NoSuchElementException {
        if (!plan.hasClass(kind) || !plan.hasSlot(slot)) {
            throw new NoSuchElementException();
        }
        settling.settle(plan, now, slot);
        return settling.loads.get(kind);
    }

    public int residual(int slot) throws NoSuchElementException {
        if (!plan.hasSlot(slot)) {
            throw new NoSuchElementException();
        }
        settling.settle(plan, now, slot);
        return settling.rest;
    }

    public int smear(int kind, int slot) throws NoSuchElementException {
        if (!plan.hasClass(kind) || !plan.hasSlot(slot)) {
            throw new NoSuchElementException();
        }
        settling.settle(plan, now, slot);
        return settling.smears.get(kind);
    }

    public int net(int meter, int slot) throws NoSuchElementException {
        if (!plan.hasMeter(meter) || !plan.hasSlot(slot)) {
            throw new NoSuchElementException();
        }
        settling.settle(plan, now, slot);
        return settling.nets.get(meter);
    }

    public int share(int supplier, int slot) throws NoSuchElementException {
        if (!plan.hasSupplier(supplier) || !plan.hasSlot(slot)) {
            throw new NoSuchElementException();
        }
        settling.settle(plan, now, slot);
        return settling.shares.get(supplier);
    }

    public int sum(int supplier) throws NoSuchElementException {
        if (!plan.hasSupplier(supplier)) {
            throw new NoSuchElementException();
        }
        settling.addShares(plan, now, sumsNow);
        return sumsNow.get(supplier);
    }

    public int gaps(int meter) {
        if (!plan.hasMeter(meter)) {
            return NONE;
        }
        int bits = 0;
        for (int slot = 0; slot < plan.slots; slot++) {
            if (!now.isUseRead(plan, meter, slot)) {
                bits |= 1 << slot;
            }
        }
        return bits;
    }

    public int stands(int meter, int place) {
        if (!plan.hasPlace(meter, place) || plan.kinds.get(meter) != REGISTER) {
            return NONE;
        }
        int said = now.saidAt(meter, place);
        if (said != NONE) {
            return said;
        }
        int from = now.lastRead(meter, place);
        int to = now.nextRead(meter, place, plan.slots);
        if (from == NONE || to == NONE) {
            return NONE;
        }
        int cut = now.cutUpTo(plan, meter, from, to, place);
        return (now.saidAt(meter, from) + cut) % REGISTER_ROUND;
    }

    public int proof(int slot) throws NoSuchElementException {
        if (!plan.hasSlot(slot)) {
            throw new NoSuchElementException();
        }
        return settling.unshared(plan, now, slot);
    }

    public int worst() {
        return settling.worstSlot(plan, now);
    }

    public int lost() {
        int lost = 0;
        for (int slot = 0; slot < plan.slots; slot++) {
            settling.settle(plan, now, slot);
            for (int meter = 0; meter < plan.meters; meter++) {
                lost += settling.grosses.get(meter) - settling.uses.get(meter);
            }
        }
        return lost;
    }

    // ---- RUNS and ACCOUNTS

    public int settled(int run, int supplier, int slot) throws NoSuchElementException {
        if (!now.hasRun(run) || !plan.hasSupplier(supplier) || !plan.hasSlot(slot)) {
            throw new NoSuchElementException();
        }
        return now.laidAt(run, supplier, slot);
    }

    public int difference(int run, int supplier, int slot) throws NoSuchElementException {
        if (!now.hasRun(run) || !plan.hasSupplier(supplier) || !plan.hasSlot(slot)) {
            throw new NoSuchElementException();
        }
        int ahead = run == 0 ? 0 : now.laidAt(run - 1, supplier, slot);
        return now.laidAt(run, supplier, slot) - ahead;
    }

    public int drift(int supplier) throws NoSuchElementException {
        if (!plan.hasSupplier(supplier)) {
            throw new NoSuchElementException();
        }
        if (now.runs == 0) {
            return 0;
        }
        settling.addShares(plan, now, sumsNow);
        int drift = sumsNow.get(supplier);
        for (int slot = 0; slot < plan.slots; slot++) {
            drift -= now.laidAt(now.runs - 1, supplier, slot);
        }
        return drift;
    }

    public int accounts() {
        return now.accountsOfLast();
    }

    public int account(int i, int what) throws NoSuchElementException {
        if (i < 0 || i >= now.accountsOfLast() || what < 0 || what > 2) {
            throw new NoSuchElementException();
        }
        int at = (now.runs - 1) * MOST_ACCOUNTS + i;
        int pair = now.pairs.get(at);
        if (what == 0) {
            return pair / MOST_CLASSES;
        }
        return what == 1 ? pair % MOST_CLASSES : now.amounts.get(at);
    }

    public int owes(int supplier, int kind) throws NoSuchElementException {
        if (!plan.hasSupplier(supplier) || !plan.hasClass(kind)) {
            throw new NoSuchElementException();
        }
        if (now.runs == 0) {
            return 0;
        }
        int at = now.accountAt(now.runs - 1, supplier, kind);
        return at == NONE ? 0 : now.amounts.get(at);
    }

    // ---- what is tried in a BOOK

    public int swing(int meter, int place, int says, int supplier) throws NoSuchElementException {
        if (!plan.hasPlace(meter, place) || !plan.hasSupplier(supplier)) {
            throw new NoSuchElementException();
        }
        // The document's condition of a BOOK names meters, suppliers and places alone: what the
        // meter would say is looked at when the BOOK has been opened.
        openBook();
        if (!plan.mayRead(meter, place, says)) {
            throw new NoSuchElementException();
        }
        tried.setSaid(meter, place, says);
        return gainTried(supplier);
    }

    public int gains(int meter, int supplier) throws NoSuchElementException {
        if (!plan.hasMeter(meter) || !plan.hasSupplier(supplier)) {
            throw new NoSuchElementException();
        }
        openBook();
        tried.setSupplier(meter, supplier, 0);
        return gainTried(supplier);
    }

    public int bears(int meter) {
        return plan.hasMeter(meter) ? weightOf(meter) : NONE;
    }

    public int heaviest() {
        int heaviest = NONE;
        int most = NONE;
        for (int meter = 0; meter < plan.meters; meter++) {
            int weight = weightOf(meter);
            if (weight > most) {
                most = weight;
                heaviest = meter;
            }
        }
        return heaviest;
    }

    /** What is tried is done to a copy, so that a BOOK is shut by leaving it. */
    private void openBook() {
        books++;
        tried.copyFrom(now);
    }

    private int gainTried(int supplier) {
        settling.addShares(plan, now, sumsNow);
        settling.addShares(plan, tried, sumsTried);
        return sumsTried.get(supplier) - sumsNow.get(supplier);
    }

    private int weightOf(int meter) {
        openBook();
        tried.forget(meter);
        settling.addShares(plan, now, sumsNow);
        settling.addShares(plan, tried, sumsTried);
        int weight = 0;
        for (int supplier = 0; supplier < plan.suppliers; supplier++) {
            weight += Math.abs(sumsTried.get(supplier) - sumsNow.get(supplier));
        }
        return weight;
    }

    // ---- which SUPPLIER it was

    public boolean see(int slot, int units, boolean more) {
        if (!plan.hasSlot(slot) || units < -HIGHEST_NUMBER || units > HIGHEST_NUMBER) {
            return false;
        }
        return now.addSeen(slot, units, more);
    }

    public int who() {
        int bits = (1 << plan.suppliers) - 1;
        for (int i = 0; i < now.seen; i++) {
            settling.settle(plan, now, now.seenSlots.get(i));
            for (int supplier = 0; supplier < plan.suppliers; supplier++) {
                if (!now.fits(i, settling.shares.get(supplier))) {
                    bits &= ~(1 << supplier);
                }
            }
        }
        return bits;
    }

    public int ask() {
        int bits = who();
        int least = Integer.bitCount(bits);
        int best = NONE;
        for (int slot = 0; slot < plan.slots; slot++) {
            settling.settle(plan, now, slot);
            int alike = settling.mostAlike(plan, bits);
            if (alike < least) {
                least = alike;
                best = slot;
            }
        }
        return best;
    }

    // ---- days by DRAWS

    public int days(int seed, int many, int what) throws NoSuchElementException {
        if (seed < 0 || seed > HIGHEST_NUMBER || many < 1 || many > MOST_DAYS || what < 0 || what > 2) {
            throw new NoSuchElementException();
        }
        openBook();
        liveDays(seed, many);
        if (what == 0) {
            return settling.allShares(plan, tried);
        }
        return what == 1 ? slotsOpen() : settling.worstSlot(plan, tried);
    }

    private void liveDays(int seed, int many) {
        if (plan.meters == 0 || plan.slots == 0) {
            return;
        }
        long g = seed;
        for (int day = 0; day < many; day++) {
            g = afterDraw(g);
            int meter = drawn(g, plan.meters);
            g = afterDraw(g);
            int slot = drawn(g, plan.slots);
            g = afterDraw(g);
            tried.setSaid(meter, slot, drawn(g, DAY_READINGS));
        }
    }

    private static long afterDraw(long g) {
        return (g * 1103515245L + 12345L) & 2147483647L;
    }

    private static int drawn(long g, int below) {
        return below <= 0 ? 0 : (int) (g / 65536L % below);
    }

    private int slotsOpen() {
        int open = 0;
        for (int slot = 0; slot < plan.slots; slot++) {
            if (settling.unshared(plan, tried, slot) != 0) {
                open++;
            }
        }
        return open;
    }

    // ---- MARKS and counts

    public boolean mark(int mark, boolean back) {
        if (mark != 0 && mark != 1) {
            return false;
        }
        return back ? goBack(mark == 0) : layMark(mark == 0);
    }

    private boolean layMark(boolean first) {
        if (first) {
            firstMark.copyFrom(now);
            firstLaid = true;
        } else {
            secondMark.copyFrom(now);
            secondLaid = true;
        }
        return true;
    }

    private boolean goBack(boolean first) {
        if (first ? !firstLaid : !secondLaid) {
            return false;
        }
        now.copyFrom(first ? firstMark : secondMark);
        past.many = 0;
        return true;
    }

    public int count(int what) {
        switch (what) {
            case 0:
                return plan.slots;
            case 1:
                return plan.classes;
            case 2:
                return plan.suppliers;
            case 3:
                return plan.meters;
            case 4:
                return allReadings();
            case 5:
                return now.runs;
            case 6:
                return books;
            case 7:
                return lines.many;
            case 8:
                return now.seen;
            case 9:
                return past.many;
            case 10:
                return reader.tape.length;
            default:
                return NONE;
        }
    }

    private int allReadings() {
        int readings = 0;
        for (int meter = 0; meter < plan.meters; meter++) {
            readings += now.countReadings(meter);
        }
        return readings;
    }

    /** Numbers in a row: beyond its ends it answers 0 and takes nothing, so that no index throws. */
    private static final class Row {
        private final int[] cells;

        Row(int size) {
            cells = new int[size < 0 ? 0 : size];
        }

        int get(int i) {
            return i >= 0 && i < cells.length ? cells[i] : 0;
        }

        void set(int i, int value) {
            if (i >= 0 && i < cells.length) {
                cells[i] = value;
            }
        }

        void add(int i, int more) {
            if (i >= 0 && i < cells.length) {
                cells[i] += more;
            }
        }

        void fill(int value) {
            for (int i = 0; i < cells.length; i++) {
                cells[i] = value;
            }
        }

        void copyFrom(Row other) {
            for (int i = 0; i < cells.length && i < other.cells.length; i++) {
                cells[i] = other.cells[i];
            }
        }

        /** The first cells fall out, the others come ahead. */
        void shiftDown(int by) {
            for (int i = 0; by >= 0 && i < cells.length - by; i++) {
                cells[i] = cells[i + by];
            }
        }
    }

    /** The WORDS that mean something; those that are kept can't be a NAME. */
    private enum Word {
        SLOTS("slots", true), FEEDER("feeder", true), CLASS("class", true), LOSS("loss", true),
        PROFILE("profile", true), SUPPLIER("supplier", true), METER("meter", true),
        WITH("with", true), SMEARS("smears", true), READ("read", true), MOVE("move", true),
        TOTAL("total", true), RUN("run", true), INTERVAL("interval", true),
        REGISTER("register", true), FLAT("flat", true), EXPORT("export", true),
        NOT("not", true), AND("and", true), OR("or", true),
        LOAD("load", false), SLOT("slot", false), MANY("many", false), OTHER("", false);

        private final long code;
        private final boolean kept;

        Word(String text, boolean kept) {
            this.code = codeOf(text);
            this.kept = kept;
        }

        private static long codeOf(String text) {
            long code = 0;
            for (int i = 0; i < text.length(); i++) {
                code = withLetter(code, text.charAt(i));
            }
            return code;
        }

        /** A WORD's letters as a number, five bits each: no two WORDS have the same. */
        private static long withLetter(long code, int letter) {
            return code << 5 | letter - 'a' + 1;
        }
    }

    /** The TAPE, and the TOKEN at which the reading of it stands. */
    private static final class Tape {
        private static final int END = 0;
        private static final int WORD = 1;
        private static final int NUMBER = 2;
        private static final int SIGN = 3;
        private static final int NOTHING = 4;

        private final byte[] signs = new byte[MOST_SIGNS];
        private int length;
        private int next;
        private int kind;
        private int place;
        private int number;
        private long code;

        void clear() {
            length = 0;
        }

        void addBytes(long bytes) {
            for (int shift = 56; shift >= 0; shift -= 8) {
                int sign = (int) (bytes >>> shift) & 255;
                boolean readable = sign == 10 || sign >= 32 && sign <= 126;
                if (readable && length >= 0 && length < signs.length) {
                    signs[length] = (byte) sign;
                    length++;
                }
            }
        }

        void begin() {
            next = 0;
            advance();
        }

        /** Goes to the next TOKEN; at the end it stays. */
        void advance() {
            place = afterBlanks(next);
            int sign = signAt(place);
            if (sign == NONE) {
                kind = END;
                next = place;
            } else if (isLetter(sign)) {
                takeLetters();
            } else if (isDigit(sign)) {
                takeDigits();
            } else {
                number = sign;
                kind = isToken(sign) ? SIGN : NOTHING;
                next = place + 1;
            }
        }

        private void takeLetters() {
            int end = place;
            code = 0;
            for (int i = place; i < length && isLetter(signAt(i)); i++) {
                code = Word.withLetter(code, signAt(i));
                end = i + 1;
            }
            kind = end - place <= MOST_LETTERS ? WORD : NOTHING;
            next = end;
        }

        private void takeDigits() {
            int end = place;
            number = 0;
            for (int i = place; i < length && isDigit(signAt(i)); i++) {
                number = number * 10 + signAt(i) - '0';
                end = i + 1;
            }
            kind = end - place <= MOST_DIGITS ? NUMBER : NOTHING;
            next = end;
        }

        private int afterBlanks(int from) {
            int i = from;
            while (i < length && (signAt(i) == 10 || signAt(i) == 32)) {
                i++;
            }
            return i;
        }

        private int signAt(int i) {
            return i >= 0 && i < length && i < signs.length ? signs[i] : NONE;
        }

        private static boolean isLetter(int sign) {
            return sign >= 'a' && sign <= 'z';
        }

        private static boolean isDigit(int sign) {
            return sign >= '0' && sign <= '9';
        }

        private static boolean isToken(int sign) {
            return sign >= '(' && sign <= '+' || sign == '-' || sign >= ';' && sign <= '=';
        }

        boolean isEnd() {
            return kind == END;
        }

        boolean isNumber() {
            return kind == NUMBER;
        }

        boolean isSign(int sign) {
            return kind == SIGN && number == sign;
        }

        /** The sign at which it stands; 0 if it stands at none. */
        int sign() {
            return kind == SIGN ? number : 0;
        }

        boolean isName() {
            return kind == WORD && !word().kept;
        }

        Word word() {
            for (int i = 0; kind == WORD && i < WORDS.length; i++) {
                if (WORDS[i].code == code) {
                    return WORDS[i];
                }
            }
            return Word.OTHER;
        }
    }

    /** The E by which the RESIDUAL is smeared, kept with each sign behind what it joins. */
    private static final class Law {
        private static final int LOAD = -1;
        private static final int LOSS = -2;
        private static final int SLOT = -3;
        private static final int MANY = -4;
        private static final int NOT = -5;
        private static final int AND = -6;
        private static final int OR = -7;
        private static final int LESS = -8;
        private static final int ALIKE = -9;
        private static final int PLUS = -10;
        private static final int MINUS = -11;
        private static final int TIMES = -12;
        private static final int OPEN = -13;
        private static final int CLOSE = -14;
        private static final int OTHER = -15;

        private static final int OPENS = 0;
        private static final int LINKS = 1;
        private static final int COMPARES = 2;
        private static final int ADDS = 3;
        private static final int MULTIPLIES = 4;
        private static final int DENIES = 5;

        private final Row steps = new Row(MOST_SIGNS);
        private final Row waiting = new Row(MOST_WAITING);
        private final Row stack = new Row(MOST_WAITING);
        private int length;
        private int waits;
        private int depth;

        void beLoad() {
            length = 1;
            steps.set(0, LOAD);
        }

        void copyFrom(Law other) {
            length = other.length;
            steps.copyFrom(other.steps);
        }

        /** Reads an E, up to the TOKEN behind it; answers what is wrong with the TOKEN there, or 0. */
        int take(Tape tape) {
            length = 0;
            waits = 0;
            depth = 0;
            boolean partDue = true;
            for (int turn = 0; turn <= MOST_SIGNS; turn++) {
                int token = partDue ? partAt(tape) : joinAt(tape);
                if (token == OTHER || token == CLOSE && depth == 0) {
                    return partDue || depth > 0 ? OUT_OF_PLACE : finish();
                }
                if (partDue && depth >= MOST_DEPTH) {
                    return ONE_TOO_MANY;
                }
                if (comparesAgain(token)) {
                    return OUT_OF_PLACE;
                }
                partDue = partDue ? addPart(token) : addJoin(token);
                tape.advance();
            }
            return OUT_OF_PLACE;
        }

        private static int partAt(Tape tape) {
            if (tape.isNumber()) {
                return tape.number;
            }
            if (tape.isSign('(')) {
                return OPEN;
            }
            Word word = tape.word();
            if (word == Word.NOT) {
                return NOT;
            }
            if (word == Word.LOAD) {
                return LOAD;
            }
            if (word == Word.LOSS) {
                return LOSS;
            }
            if (word == Word.SLOT) {
                return SLOT;
            }
            return word == Word.MANY ? MANY : OTHER;
        }

        private static int joinAt(Tape tape) {
            switch (tape.sign()) {
                case '<':
                    return LESS;
                case '=':
                    return ALIKE;
                case '+':
                    return PLUS;
                case '-':
                    return MINUS;
                case '*':
                    return TIMES;
                case ')':
                    return CLOSE;
                default:
                    break;
            }
            Word word = tape.word();
            if (word == Word.AND) {
                return AND;
            }
            return word == Word.OR ? OR : OTHER;
        }

        /** How strongly a waiting sign binds. */
        private static int rank(int token) {
            switch (token) {
                case AND:
                case OR:
                    return LINKS;
                case LESS:
                case ALIKE:
                    return COMPARES;
                case PLUS:
                case MINUS:
                    return ADDS;
                case TIMES:
                    return MULTIPLIES;
                case NOT:
                    return DENIES;
                default:
                    return OPENS;
            }
        }

        /** A TEST compares once: a second < or = would join it to a third SUM. */
        private boolean comparesAgain(int token) {
            if (rank(token) != COMPARES) {
                return false;
            }
            for (int i = waits - 1; i >= 0 && rank(waiting.get(i)) >= COMPARES; i--) {
                if (rank(waiting.get(i)) == COMPARES) {
                    return true;
                }
            }
            return false;
        }

        /** Answers whether a PART is due behind it. */
        private boolean addPart(int token) {
            if (token == NOT || token == OPEN) {
                hold(token);
                depth++;
                return true;
            }
            steps.set(length, token);
            length++;
            endNots();
            return false;
        }

        /** Answers whether a PART is due behind it. */
        private boolean addJoin(int token) {
            if (token == CLOSE) {
                release(LINKS);
                waits--;
                depth--;
                endNots();
                return false;
            }
            release(rank(token));
            hold(token);
            return true;
        }

        private int finish() {
            release(LINKS);
            return 0;
        }

        private void hold(int token) {
            waiting.set(waits, token);
            waits++;
        }

        /** A PART has ended, and with it all that is denied by it. */
        private void endNots() {
            for (int i = waits - 1; i >= 0 && waiting.get(i) == NOT; i--) {
                steps.set(length, NOT);
                length++;
                waits--;
                depth--;
            }
        }

        /** Signs that wait and bind as strongly as that, or more, are due now. */
        private void release(int rank) {
            for (int i = waits - 1; i >= 0 && rank(waiting.get(i)) >= rank; i--) {
                steps.set(length, waiting.get(i));
                length++;
                waits--;
            }
        }

        /** The WEIGHT that it gives to a CLASS of which these are the facts. */
        int weight(int load, int loss, int slot, int many) {
            int height = 0;
            for (int i = 0; i < length; i++) {
                int step = steps.get(i);
                if (step > NOT) {
                    stack.set(height, step >= 0 ? step : fact(step, load, loss, slot, many));
                    height++;
                } else if (step == NOT) {
                    stack.set(height - 1, stack.get(height - 1) == 0 ? 1 : 0);
                } else {
                    height--;
                    stack.set(height - 1, joined(step, stack.get(height - 1), stack.get(height)));
                }
            }
            return Math.max(0, Math.min(HIGHEST_NUMBER, stack.get(0)));
        }

        private static int fact(int step, int load, int loss, int slot, int many) {
            switch (step) {
                case LOAD:
                    return load;
                case LOSS:
                    return loss;
                case SLOT:
                    return slot;
                default:
                    return many;
            }
        }

        private static int joined(int step, int left, int right) {
            switch (step) {
                case AND:
                    return left != 0 && right != 0 ? 1 : 0;
                case OR:
                    return left != 0 || right != 0 ? 1 : 0;
                case LESS:
                    return left < right ? 1 : 0;
                case ALIKE:
                    return left == right ? 1 : 0;
                case PLUS:
                    return left + right;
                case MINUS:
                    return left - right;
                default:
                    return left * right;
            }
        }
    }

    /** A GRID as it was told. */
    private static final class Plan {
        private static final int CLASS_NAMES = 0;
        private static final int SUPPLIER_NAMES = MOST_CLASSES;
        private static final int METER_NAMES = MOST_CLASSES + MOST_SUPPLIERS;

        private final long[] names = new long[METER_NAMES + MOST_METERS];
        private final Row feeder = new Row(MOST_SLOTS);
        private final Row losses = new Row(MOST_CLASSES);
        private final Row members = new Row(MOST_CLASSES);
        private final Row profilesUpTo = new Row(MOST_CLASSES * MOST_PLACES);
        private final Row kinds = new Row(MOST_METERS);
        private final Row groups = new Row(MOST_METERS);
        private final Row firstSuppliers = new Row(MOST_METERS);
        private final Law law = new Law();
        private int slots;
        private int classes;
        private int suppliers;
        private int meters;

        void clear() {
            feeder.fill(0);
            members.fill(0);
            law.beLoad();
            slots = 0;
            classes = 0;
            suppliers = 0;
            meters = 0;
        }

        void copyFrom(Plan other) {
            for (int i = 0; i < names.length && i < other.names.length; i++) {
                names[i] = other.names[i];
            }
            feeder.copyFrom(other.feeder);
            losses.copyFrom(other.losses);
            members.copyFrom(other.members);
            profilesUpTo.copyFrom(other.profilesUpTo);
            kinds.copyFrom(other.kinds);
            groups.copyFrom(other.groups);
            firstSuppliers.copyFrom(other.firstSuppliers);
            law.copyFrom(other.law);
            slots = other.slots;
            classes = other.classes;
            suppliers = other.suppliers;
            meters = other.meters;
        }

        void addClass(long name, int loss, Row series, int many) {
            setName(CLASS_NAMES + classes, name);
            losses.set(classes, loss);
            int upTo = 0;
            for (int place = 0; many > 0 && place < MOST_PLACES; place++) {
                profilesUpTo.set(classes * MOST_PLACES + place, upTo);
                upTo += series.get(place % many);
            }
            classes++;
        }

        void addSupplier(long name) {
            setName(SUPPLIER_NAMES + suppliers, name);
            suppliers++;
        }

        void addMeter(long name, int kind, int group, int supplier) {
            setName(METER_NAMES + meters, name);
            kinds.set(meters, kind);
            groups.set(meters, group);
            firstSuppliers.set(meters, supplier);
            members.add(group, 1);
            meters++;
        }

        private void setName(int i, long name) {
            if (i >= 0 && i < names.length) {
                names[i] = name;
            }
        }

        int findClass(long name) {
            return find(name, CLASS_NAMES, classes);
        }

        int findSupplier(long name) {
            return find(name, SUPPLIER_NAMES, suppliers);
        }

        int findMeter(long name) {
            return find(name, METER_NAMES, meters);
        }

        private int find(long name, int from, int many) {
            for (int i = 0; i < many && from + i < names.length; i++) {
                if (names[from + i] == name) {
                    return i;
                }
            }
            return NONE;
        }

        boolean isTold(long name) {
            return findClass(name) != NONE || findSupplier(name) != NONE || findMeter(name) != NONE;
        }

        boolean hasSlot(int slot) {
            return slot >= 0 && slot < slots;
        }

        boolean hasClass(int kind) {
            return kind >= 0 && kind < classes;
        }

        boolean hasSupplier(int supplier) {
            return supplier >= 0 && supplier < suppliers;
        }

        boolean hasMeter(int meter) {
            return meter >= 0 && meter < meters;
        }

        boolean hasPlace(int meter, int place) {
            return hasMeter(meter) && place >= 0 && place <= lastPlace(meter);
        }

        boolean mayRead(int meter, int place, int says) {
            return hasPlace(meter, place) && says >= 0 && says <= highestSaid(meter);
        }

        /** NONE if there is no slot and it is no register. */
        int lastPlace(int meter) {
            return kinds.get(meter) == REGISTER ? slots : slots - 1;
        }

        int highestSaid(int meter) {
            return kinds.get(meter) == REGISTER ? HIGHEST_NUMBER : HIGHEST_SAID;
        }
    }

    /** The lines of a WORK: what each does, and up to three numbers. */
    private static final class Lines {
        private final Row deeds = new Row(MOST_LINES);
        private final Row firsts = new Row(MOST_LINES);
        private final Row seconds = new Row(MOST_LINES);
        private final Row thirds = new Row(MOST_LINES);
        private int many;

        void addLine(int deed, int first, int second, int third) {
            deeds.set(many, deed);
            firsts.set(many, first);
            seconds.set(many, second);
            thirds.set(many, third);
            many++;
        }

        void copyFrom(Lines other) {
            deeds.copyFrom(other.deeds);
            firsts.copyFrom(other.firsts);
            seconds.copyFrom(other.seconds);
            thirds.copyFrom(other.thirds);
            many = other.many;
        }
    }

    /** Reads the TAPE as a GRID or a WORK, up to the first FAULT. */
    private static final class Reader {
        private final Tape tape = new Tape();
        private final Row series = new Row(MOST_SLOTS);
        private int many;
        private int number;
        private int found;
        private long name;
        private int fault;
        private boolean feederTold;
        private boolean lawTold;

        int takeGrid(Plan draft) {
            draft.clear();
            fault = 0;
            feederTold = false;
            lawTold = false;
            boolean well = true;
            tape.begin();
            for (int line = 0; line < MOST_SIGNS && well && !tape.isEnd(); line++) {
                Word word = tape.word();
                if (word == Word.SLOTS) {
                    well = takeSlots(draft);
                } else if (word == Word.FEEDER) {
                    well = takeFeeder(draft);
                } else if (word == Word.CLASS) {
                    well = takeClass(draft);
                } else if (word == Word.SUPPLIER) {
                    well = takeSupplier(draft);
                } else if (word == Word.METER) {
                    well = takeMeter(draft);
                } else if (word == Word.SMEARS) {
                    well = takeLaw(draft);
                } else {
                    well = wrong(OUT_OF_PLACE);
                }
            }
            return fault;
        }

        int takeWork(Plan plan, Lines draft) {
            draft.many = 0;
            fault = 0;
            boolean well = true;
            tape.begin();
            for (int line = 0; line < MOST_SIGNS && well && !tape.isEnd(); line++) {
                Word word = tape.word();
                if (!beginsLine(word)) {
                    well = wrong(OUT_OF_PLACE);
                } else if (draft.many >= MOST_LINES) {
                    well = wrong(ONE_TOO_MANY);
                } else if (word == Word.READ) {
                    well = takeReading(plan, draft);
                } else if (word == Word.MOVE) {
                    well = takeMove(plan, draft);
                } else if (word == Word.TOTAL) {
                    well = takeTotal(plan, draft);
                } else {
                    well = takeRun(draft);
                }
            }
            return fault;
        }

        private static boolean beginsLine(Word word) {
            return word == Word.READ || word == Word.MOVE || word == Word.TOTAL || word == Word.RUN;
        }

        private boolean takeSlots(Plan draft) {
            if (draft.slots > 0) {
                return wrong(TOLD_ALREADY);
            }
            tape.advance();
            if (!takeNumber(1, MOST_SLOTS)) {
                return false;
            }
            draft.slots = number;
            return takeEnd();
        }

        private boolean takeFeeder(Plan draft) {
            if (feederTold) {
                return wrong(TOLD_ALREADY);
            }
            feederTold = true;
            tape.advance();
            if (!takeSeries(HIGHEST_NUMBER)) {
                return false;
            }
            for (int slot = 0; slot < many; slot++) {
                draft.feeder.set(slot, series.get(slot));
            }
            return takeEnd();
        }

        private boolean takeClass(Plan draft) {
            if (draft.classes >= MOST_CLASSES) {
                return wrong(ONE_TOO_MANY);
            }
            tape.advance();
            if (!takeNewName(draft) || !takeWord(Word.LOSS) || !takeNumber(0, HIGHEST_LOSS)) {
                return false;
            }
            long called = name;
            int loss = number;
            if (!takeWord(Word.PROFILE) || !takeSeries(HIGHEST_PROFILE)) {
                return false;
            }
            draft.addClass(called, loss, series, many);
            return takeEnd();
        }

        private boolean takeSupplier(Plan draft) {
            if (draft.suppliers >= MOST_SUPPLIERS) {
                return wrong(ONE_TOO_MANY);
            }
            tape.advance();
            if (!takeNewName(draft)) {
                return false;
            }
            draft.addSupplier(name);
            return takeEnd();
        }

        private boolean takeMeter(Plan draft) {
            if (draft.meters >= MOST_METERS) {
                return wrong(ONE_TOO_MANY);
            }
            tape.advance();
            if (!takeNewName(draft)) {
                return false;
            }
            long called = name;
            int kind = kindOf(tape.word());
            if (kind == NONE) {
                return wrong(OUT_OF_PLACE);
            }
            tape.advance();
            if (!takeWord(Word.CLASS) || !takeName() || !isFound(draft.findClass(name))) {
                return false;
            }
            int group = found;
            if (!takeWord(Word.WITH) || !takeName() || !isFound(draft.findSupplier(name))) {
                return false;
            }
            draft.addMeter(called, kind, group, found);
            return takeEnd();
        }

        private static int kindOf(Word word) {
            if (word == Word.INTERVAL) {
                return INTERVAL;
            }
            if (word == Word.REGISTER) {
                return REGISTER;
            }
            if (word == Word.FLAT) {
                return FLAT;
            }
            return word == Word.EXPORT ? EXPORT : NONE;
        }

        private boolean takeLaw(Plan draft) {
            if (lawTold) {
                return wrong(TOLD_ALREADY);
            }
            lawTold = true;
            tape.advance();
            int kind = draft.law.take(tape);
            return kind == 0 ? takeEnd() : wrong(kind);
        }

        private boolean takeReading(Plan plan, Lines draft) {
            tape.advance();
            if (!takeName() || !isFound(plan.findMeter(name))) {
                return false;
            }
            int meter = found;
            if (!takeNumber(0, plan.lastPlace(meter))) {
                return false;
            }
            int place = number;
            if (!takeNumber(0, plan.highestSaid(meter))) {
                return false;
            }
            draft.addLine(READING, meter, place, number);
            return takeEnd();
        }

        private boolean takeMove(Plan plan, Lines draft) {
            tape.advance();
            if (!takeName() || !isFound(plan.findMeter(name))) {
                return false;
            }
            int meter = found;
            if (!takeName() || !isFound(plan.findSupplier(name)) || !takeNumber(0, plan.slots - 1)) {
                return false;
            }
            draft.addLine(MOVING, meter, found, number);
            return takeEnd();
        }

        private boolean takeTotal(Plan plan, Lines draft) {
            tape.advance();
            if (!takeNumber(0, plan.slots - 1)) {
                return false;
            }
            int slot = number;
            if (!takeNumber(0, HIGHEST_NUMBER)) {
                return false;
            }
            draft.addLine(TOTALLING, slot, number, 0);
            return takeEnd();
        }

        private boolean takeRun(Lines draft) {
            tape.advance();
            draft.addLine(RUNNING, 0, 0, 0);
            return takeEnd();
        }

        private boolean wrong(int kind) {
            fault = kind + 16 * tape.place;
            return false;
        }

        private boolean takeEnd() {
            if (!tape.isSign(';')) {
                return wrong(OUT_OF_PLACE);
            }
            tape.advance();
            return true;
        }

        private boolean takeWord(Word word) {
            if (tape.word() != word) {
                return wrong(OUT_OF_PLACE);
            }
            tape.advance();
            return true;
        }

        private boolean takeNumber(int lowest, int highest) {
            if (!tape.isNumber()) {
                return wrong(OUT_OF_PLACE);
            }
            number = tape.number;
            if (number < lowest || number > highest) {
                return wrong(WRONG_NUMBER);
            }
            tape.advance();
            return true;
        }

        /** One NUMBER or more, as many as slots can be. */
        private boolean takeSeries(int highest) {
            many = 0;
            for (int i = 0; i <= MOST_SLOTS && (i == 0 || tape.isNumber()); i++) {
                if (!tape.isNumber()) {
                    return wrong(OUT_OF_PLACE);
                }
                if (tape.number > highest) {
                    return wrong(WRONG_NUMBER);
                }
                if (i == MOST_SLOTS) {
                    return wrong(ONE_TOO_MANY);
                }
                series.set(i, tape.number);
                many = i + 1;
                tape.advance();
            }
            return true;
        }

        /** A NAME of anything; it stays the TOKEN, as it is the one that may be unknown. */
        private boolean takeName() {
            name = tape.code;
            return tape.isName() || wrong(OUT_OF_PLACE);
        }

        private boolean isFound(int index) {
            found = index;
            if (index == NONE) {
                return wrong(UNKNOWN_NAME);
            }
            tape.advance();
            return true;
        }

        private boolean takeNewName(Plan draft) {
            if (!takeName()) {
                return false;
            }
            if (draft.isTold(name)) {
                return wrong(TOLD_ALREADY);
            }
            tape.advance();
            return true;
        }
    }

    /** What is READ, with whom METERS are, TOTALS, RUNS and what is SEEN: all that a MARK holds. */
    private static final class Ledger {
        private final Row readings = new Row(MOST_METERS * MOST_PLACES);
        private final Row suppliers = new Row(MOST_METERS * MOST_SLOTS);
        private final Row feeder = new Row(MOST_SLOTS);
        private final Row laid = new Row(MOST_RUNS * MOST_SUPPLIERS * MOST_SLOTS);
        private final Row pairs = new Row(MOST_RUNS * MOST_ACCOUNTS);
        private final Row amounts = new Row(MOST_RUNS * MOST_ACCOUNTS);
        private final Row manyPairs = new Row(MOST_RUNS);
        private final Row seenSlots = new Row(MOST_SEEN);
        private final Row seenUnits = new Row(MOST_SEEN);
        private final Row seenMore = new Row(MOST_SEEN);
        private int runs;
        private int seen;

        void begin(Plan plan) {
            readings.fill(NONE);
            for (int meter = 0; meter < plan.meters; meter++) {
                setSupplier(meter, plan.firstSuppliers.get(meter), 0);
            }
            feeder.copyFrom(plan.feeder);
            runs = 0;
            seen = 0;
        }

        void copyFrom(Ledger other) {
            readings.copyFrom(other.readings);
            suppliers.copyFrom(other.suppliers);
            feeder.copyFrom(other.feeder);
            laid.copyFrom(other.laid);
            pairs.copyFrom(other.pairs);
            amounts.copyFrom(other.amounts);
            manyPairs.copyFrom(other.manyPairs);
            seenSlots.copyFrom(other.seenSlots);
            seenUnits.copyFrom(other.seenUnits);
            seenMore.copyFrom(other.seenMore);
            runs = other.runs;
            seen = other.seen;
        }

        /** Does what a line of a WORK tells; false if it can't be. */
        boolean follow(Lines lines, int line) {
            int first = lines.firsts.get(line);
            int second = lines.seconds.get(line);
            int third = lines.thirds.get(line);
            switch (lines.deeds.get(line)) {
                case READING:
                    setSaid(first, second, third);
                    return true;
                case MOVING:
                    setSupplier(first, second, third);
                    return true;
                case TOTALLING:
                    feeder.set(first, second);
                    return true;
                default:
                    return addRun();
            }
        }

        /** Of the RUNS of a WORK nothing is asked but how many there are. */
        private boolean addRun() {
            if (runs >= MOST_RUNS) {
                return false;
            }
            runs++;
            return true;
        }

        int saidAt(int meter, int place) {
            return readings.get(meter * MOST_PLACES + place);
        }

        void setSaid(int meter, int place, int says) {
            readings.set(meter * MOST_PLACES + place, says);
        }

        void forget(int meter) {
            for (int place = 0; place < MOST_PLACES; place++) {
                setSaid(meter, place, NONE);
            }
        }

        int countReadings(int meter) {
            int many = 0;
            for (int place = 0; place < MOST_PLACES; place++) {
                many += saidAt(meter, place) == NONE ? 0 : 1;
            }
            return many;
        }

        /** The last place up to that one at which it was READ, or NONE. */
        int lastRead(int meter, int place) {
            for (int i = place; i >= 0; i--) {
                if (readings.get(meter * MOST_PLACES + i) != NONE) {
                    return i;
                }
            }
            return NONE;
        }

        /** The first place behind that one, up to the last one, at which it was READ, or NONE. */
        int nextRead(int meter, int place, int last) {
            for (int i = place + 1; i <= last; i++) {
                if (readings.get(meter * MOST_PLACES + i) != NONE) {
                    return i;
                }
            }
            return NONE;
        }

        boolean isUseRead(Plan plan, int meter, int slot) {
            if (plan.kinds.get(meter) != REGISTER) {
                return saidAt(meter, slot) != NONE;
            }
            return lastRead(meter, slot) != NONE && nextRead(meter, slot, plan.slots) != NONE;
        }

        /** The USE of a METER in a slot. */
        int useIn(Plan plan, int meter, int slot) {
            int from = lastRead(meter, slot);
            if (from == NONE) {
                return 0;
            }
            int kind = plan.kinds.get(meter);
            if (kind != REGISTER) {
                return kind == EXPORT ? -saidAt(meter, from) : saidAt(meter, from);
            }
            int to = nextRead(meter, slot, plan.slots);
            if (to == NONE) {
                return 0;
            }
            return cutUpTo(plan, meter, from, to, slot + 1) - cutUpTo(plan, meter, from, to, slot);
        }

        /** What of the ADVANCE from one place to another one lies ahead of a place between them. */
        int cutUpTo(Plan plan, int meter, int from, int to, int place) {
            int first = meter * MOST_PLACES;
            int advance = readings.get(first + to) - readings.get(first + from);
            if (advance < 0) {
                advance += REGISTER_ROUND;
            }
            Row upTo = plan.profilesUpTo;
            int base = plan.groups.get(meter) * MOST_PLACES;
            int all = upTo.get(base + to) - upTo.get(base + from);
            int part = upTo.get(base + place) - upTo.get(base + from);
            if (all == 0) {
                all = to - from;
                part = place - from;
            }
            return all <= 0 ? 0 : advance * part / all;
        }

        int supplierAt(int meter, int slot) {
            return suppliers.get(meter * MOST_SLOTS + slot);
        }

        void setSupplier(int meter, int supplier, int from) {
            for (int slot = from; slot < MOST_SLOTS; slot++) {
                suppliers.set(meter * MOST_SLOTS + slot, supplier);
            }
        }

        void setSupplierIn(int meter, int slot, int supplier) {
            suppliers.set(meter * MOST_SLOTS + slot, supplier);
        }

        boolean hasRun(int run) {
            return run >= 0 && run < runs;
        }

        int laidAt(int run, int supplier, int slot) {
            return laid.get((run * MOST_SUPPLIERS + supplier) * MOST_SLOTS + slot);
        }

        void setLaid(int run, int supplier, int slot, int units) {
            laid.set((run * MOST_SUPPLIERS + supplier) * MOST_SLOTS + slot, units);
        }

        int accountsOfLast() {
            return runs == 0 ? 0 : manyPairs.get(runs - 1);
        }

        /** Where the ACCOUNT of a SUPPLIER and a CLASS by a RUN is kept, or NONE. */
        int accountAt(int run, int supplier, int group) {
            int first = run * MOST_ACCOUNTS;
            int pair = supplier * MOST_CLASSES + group;
            for (int i = 0; i < manyPairs.get(run); i++) {
                if (pairs.get(first + i) == pair) {
                    return first + i;
                }
            }
            return NONE;
        }

        /** Opens a RUN's ACCOUNTS, by METERS, then slots, with nothing on them. */
        void openAccounts(Plan plan, int run) {
            manyPairs.set(run, 0);
            for (int meter = 0; meter < plan.meters; meter++) {
                int group = plan.groups.get(meter);
                for (int slot = 0; slot < plan.slots; slot++) {
                    openAccount(run, supplierAt(meter, slot), group);
                }
            }
        }

        private void openAccount(int run, int supplier, int group) {
            if (accountAt(run, supplier, group) != NONE) {
                return;
            }
            int at = run * MOST_ACCOUNTS + manyPairs.get(run);
            pairs.set(at, supplier * MOST_CLASSES + group);
            amounts.set(at, 0);
            manyPairs.add(run, 1);
        }

        boolean addSeen(int slot, int units, boolean more) {
            if (seen >= MOST_SEEN) {
                return false;
            }
            seenSlots.set(seen, slot);
            seenUnits.set(seen, units);
            seenMore.set(seen, more ? 1 : 0);
            seen++;
            return true;
        }

        /** Whether a SHARE is as the i-th SEEN tells: so much or more, or less than that. */
        boolean fits(int i, int share) {
            boolean more = share >= seenUnits.get(i);
            return more == (seenMore.get(i) == 1);
        }
    }

    /** What can be undone: of each deed what it changed, as it was ahead; the last deed last. */
    private static final class Past {
        private static final int DEED = 0;
        private static final int METER = 1;
        private static final int PLACE = 2;
        private static final int WAS = 3;
        private static final int SUPPLIERS = 4;
        private static final int WIDTH = SUPPLIERS + MOST_SLOTS;

        private final Row entries = new Row(MOST_UNDONE * WIDTH);
        private int many;

        /** Keeps what a deed is about to change. */
        void keep(Ledger ledger, int deed, int meter, int place) {
            if (many >= MOST_UNDONE) {
                entries.shiftDown(WIDTH);
                many = MOST_UNDONE - 1;
            }
            int at = many * WIDTH;
            entries.set(at + DEED, deed);
            entries.set(at + METER, meter);
            entries.set(at + PLACE, place);
            int was = deed == TOTALLING ? ledger.feeder.get(place) : ledger.saidAt(meter, place);
            entries.set(at + WAS, was);
            for (int slot = 0; slot < MOST_SLOTS; slot++) {
                entries.set(at + SUPPLIERS + slot, ledger.supplierAt(meter, slot));
            }
            many++;
        }

        boolean takeBack(Ledger ledger) {
            if (many <= 0) {
                return false;
            }
            many--;
            int at = many * WIDTH;
            int meter = entries.get(at + METER);
            int place = entries.get(at + PLACE);
            switch (entries.get(at + DEED)) {
                case READING:
                    ledger.setSaid(meter, place, entries.get(at + WAS));
                    break;
                case MOVING:
                    giveBackSuppliers(ledger, meter, at + SUPPLIERS);
                    break;
                case TOTALLING:
                    ledger.feeder.set(place, entries.get(at + WAS));
                    break;
                default:
                    ledger.runs--;
                    break;
            }
            return true;
        }

        private void giveBackSuppliers(Ledger ledger, int meter, int from) {
            for (int slot = 0; slot < MOST_SLOTS; slot++) {
                ledger.setSupplierIn(meter, slot, entries.get(from + slot));
            }
        }
    }

    /** Settles a slot: what each METER, CLASS and SUPPLIER has in it. */
    private static final class Settling {
        private final Row uses = new Row(MOST_METERS);
        private final Row grosses = new Row(MOST_METERS);
        private final Row nets = new Row(MOST_METERS);
        private final Row loads = new Row(MOST_CLASSES);
        private final Row smears = new Row(MOST_CLASSES);
        private final Row shares = new Row(MOST_SUPPLIERS);
        private final Row classWeights = new Row(MOST_CLASSES);
        private final Row meterWeights = new Row(MOST_METERS);
        private final Row meterParts = new Row(MOST_METERS);
        private final Row cutOff = new Row(MOST_METERS);
        private int rest;

        void settle(Plan plan, Ledger ledger, int slot) {
            rest = ledger.feeder.get(slot);
            loads.fill(0);
            for (int meter = 0; meter < plan.meters; meter++) {
                int group = plan.groups.get(meter);
                int used = ledger.useIn(plan, meter, slot);
                int withLosses = used * (1000 + plan.losses.get(group)) / 1000;
                uses.set(meter, used);
                grosses.set(meter, withLosses);
                nets.set(meter, withLosses);
                loads.add(group, withLosses);
                rest -= withLosses;
            }
            smearRest(plan, slot);
            shares.fill(0);
            for (int meter = 0; meter < plan.meters; meter++) {
                shares.add(ledger.supplierAt(meter, slot), nets.get(meter));
            }
        }

        private void smearRest(Plan plan, int slot) {
            for (int group = 0; group < plan.classes; group++) {
                int members = plan.members.get(group);
                int weight = members == 0 ? 0
                        : plan.law.weight(loads.get(group), plan.losses.get(group), slot, members);
                classWeights.set(group, weight);
            }
            shareOut(rest, classWeights, plan.classes, smears);
            for (int group = 0; group < plan.classes; group++) {
                weighMeters(plan, group);
                shareOut(smears.get(group), meterWeights, plan.meters, meterParts);
                for (int meter = 0; meter < plan.meters; meter++) {
                    nets.add(meter, meterParts.get(meter));
                }
            }
        }

        /** The METERS of a CLASS weigh what they used, all others nothing. */
        private void weighMeters(Plan plan, int group) {
            boolean idle = true;
            for (int meter = 0; meter < plan.meters; meter++) {
                idle = idle && (plan.groups.get(meter) != group || grosses.get(meter) == 0);
            }
            for (int meter = 0; meter < plan.meters; meter++) {
                int weight = idle ? 1 : Math.abs(grosses.get(meter));
                meterWeights.set(meter, plan.groups.get(meter) == group ? weight : 0);
            }
        }

        /** Shares a number out by WEIGHTS; nothing is shared out if all of them are 0. */
        private void shareOut(int number, Row weights, int many, Row parts) {
            long all = 0;
            for (int i = 0; i < many; i++) {
                all += weights.get(i);
            }
            int sign = number < 0 ? -1 : 1;
            int left = all <= 0 ? 0 : number * sign;
            for (int i = 0; i < many; i++) {
                long times = all <= 0 ? 0 : (long) number * sign * weights.get(i);
                int part = all <= 0 ? 0 : (int) (times / all);
                cutOff.set(i, all <= 0 ? 0 : (int) (times % all));
                parts.set(i, part * sign);
                left -= part;
            }
            for (int turn = 0; turn < left && turn < many; turn++) {
                int most = 0;
                for (int i = 1; i < many; i++) {
                    most = cutOff.get(i) > cutOff.get(most) ? i : most;
                }
                parts.add(most, sign);
                cutOff.set(most, NONE);
            }
        }

        /** What each SUPPLIER has in all slots. */
        void addShares(Plan plan, Ledger ledger, Row sums) {
            sums.fill(0);
            for (int slot = 0; slot < plan.slots; slot++) {
                settle(plan, ledger, slot);
                for (int supplier = 0; supplier < plan.suppliers; supplier++) {
                    sums.add(supplier, shares.get(supplier));
                }
            }
        }

        int allShares(Plan plan, Ledger ledger) {
            int all = 0;
            for (int slot = 0; slot < plan.slots; slot++) {
                all += ledger.feeder.get(slot) - unshared(plan, ledger, slot);
            }
            return all;
        }

        /** The PROOF of a slot. */
        int unshared(Plan plan, Ledger ledger, int slot) {
            settle(plan, ledger, slot);
            int unshared = ledger.feeder.get(slot);
            for (int supplier = 0; supplier < plan.suppliers; supplier++) {
                unshared -= shares.get(supplier);
            }
            return unshared;
        }

        int worstSlot(Plan plan, Ledger ledger) {
            int worst = NONE;
            int most = NONE;
            for (int slot = 0; slot < plan.slots; slot++) {
                settle(plan, ledger, slot);
                if (Math.abs(rest) > most) {
                    most = Math.abs(rest);
                    worst = slot;
                }
            }
            return worst;
        }

        /** Of the SUPPLIERS in the bits, how many have the SHARE that most of them have. */
        int mostAlike(Plan plan, int bits) {
            int most = 0;
            for (int i = 0; i < plan.suppliers; i++) {
                int alike = 0;
                for (int j = 0; j < plan.suppliers; j++) {
                    boolean both = (bits >> i & bits >> j & 1) == 1;
                    alike += both && shares.get(i) == shares.get(j) ? 1 : 0;
                }
                most = Math.max(most, alike);
            }
            return most;
        }

        /** Lays a RUN down behind those that there are. */
        void layDown(Plan plan, Ledger ledger) {
            int run = ledger.runs;
            ledger.openAccounts(plan, run);
            for (int slot = 0; slot < plan.slots; slot++) {
                settle(plan, ledger, slot);
                for (int supplier = 0; supplier < plan.suppliers; supplier++) {
                    ledger.setLaid(run, supplier, slot, shares.get(supplier));
                }
                for (int meter = 0; meter < plan.meters; meter++) {
                    int supplier = ledger.supplierAt(meter, slot);
                    int at = ledger.accountAt(run, supplier, plan.groups.get(meter));
                    ledger.amounts.add(at, nets.get(meter));
                }
            }
            ledger.runs++;
        }
    }
}
