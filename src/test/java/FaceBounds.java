/** Promises 1 to 42, each by its own words: what it answers, and what it refuses. */
final class FaceBounds {
    private static final String FOUR = HandBounds.FOUR;
    private static final String TWO = HandBounds.TWO;

    // By slots, of METERS, CLASSES, SUPPLIERS, or of the feeder alone.
    private static final int[][] USES = {{20, 20, 20, 20}, {16, 32, 16, 16}, {0, 10, 10, 10}, {-5, -5, -5, -5}};
    private static final int[][] GROSSES = {{22, 22, 22, 22}, {17, 35, 17, 17}, {0, 10, 10, 10}, {-5, -5, -5, -5}};
    private static final int[][] LOADS = {{39, 57, 39, 39}, {-5, 5, 5, 5}};
    private static final int[][] RESIDUALS = {{66, -12, 16, -44}};
    private static final int[][] SMEARS = {{66, -11, 14, -39}, {0, -1, 2, -5}};
    private static final int[][] NETS = {{59, 18, 30, 0}, {46, 28, 23, 0}, {0, 9, 11, 7}, {-5, -5, -4, -7}};
    private static final int[][] SHARES = {{59, 27, 41, 7}, {41, 23, 19, -7}};
    private static final int[][] PROOFS = {{0, 0, 0, 0}};

    private FaceBounds() {
    }

    static void all() {
        heading(1, "A new object", "FeederShares()", "Nothing.", FaceBounds::newObject);
        heading(2, "feed", "int feed(long a, long b, long c)", "Up to 24 signs come behind the TAPE: the bytes of a, b, c, of each the "
                + "highest first; others than 10 and 32 .. 126, and what is beyond 1,000, are left out: how many there are.", FaceBounds::feed);
        heading(3, "grid", "int grid()", "The TAPE is read as a GRID: 0, or its FAULT (all stays then).", FaceBounds::grid);
        heading(4, "work", "int work()", "The TAPE is read as a WORK, likewise.", FaceBounds::work);
        heading(5, "meter", "int meter(int meter, int what)", "Of a METER, what 0: KIND (0 interval, 1 register, 2 flat, 3 export), "
                + "1: CLASS, 2: at how many places it was READ; NONE: others.", FaceBounds::meter);
        heading(6, "with", "int with(int meter, int slot)", "With which SUPPLIER a METER is in a slot; NONE: others.", FaceBounds::with);
        heading(7, "says", "int says(int meter, int place)", "What a METER says at a place; NONE: others, it was not READ there.", FaceBounds::says);
        heading(8, "read", "int read(int meter, int place, int says)", "READ: what it said there (NONE: nothing); -2: others.", FaceBounds::read);
        heading(9, "move", "int move(int meter, int supplier, int slot)", "MOVE: the SUPPLIER with which it was in that slot; NONE: others.",
                FaceBounds::move);
        heading(10, "total", "int total(int slot, int units)", "TOTAL (0 to 9999): what it was; NONE: others.", FaceBounds::total);
        heading(11, "run", "int run()", "RUN: its number (from 0); NONE: it can't be.", FaceBounds::run);
        heading(12, "undo", "boolean undo()", "UNDO: true; false: nothing can be.", FaceBounds::undo);
        heading(13, "judged", "int judged(int what) throws NoSuchElementException", "JUDGED, what 0: a line (NONE: none), 1, 2: how many; "
                + "NoSuchElementException: others.", FaceBounds::judged);
        settled();
        laidDown();
        tried();
    }

    private static void settled() {
        heading(14, "use", "int use(int meter, int slot) throws NoSuchElementException", "USE; NoSuchElementException: others.",
                () -> slots(USES, (x, meter, slot) -> x.use(meter, slot)));
        heading(15, "gross", "int gross(int meter, int slot) throws NoSuchElementException", "GROSS; NoSuchElementException: others.",
                () -> slots(GROSSES, (x, meter, slot) -> x.gross(meter, slot)));
        heading(16, "load", "int load(int kind, int slot) throws NoSuchElementException", "LOAD; NoSuchElementException: others.",
                () -> slots(LOADS, (x, kind, slot) -> x.load(kind, slot)));
        heading(17, "residual", "int residual(int slot) throws NoSuchElementException", "RESIDUAL; NoSuchElementException: others.",
                () -> slots(RESIDUALS, (x, none, slot) -> x.residual(slot)));
        heading(18, "smear", "int smear(int kind, int slot) throws NoSuchElementException", "What is SMEARED to a CLASS; "
                + "NoSuchElementException: others.", () -> slots(SMEARS, (x, kind, slot) -> x.smear(kind, slot)));
        heading(19, "net", "int net(int meter, int slot) throws NoSuchElementException", "NET; NoSuchElementException: others.",
                () -> slots(NETS, (x, meter, slot) -> x.net(meter, slot)));
        heading(20, "share", "int share(int supplier, int slot) throws NoSuchElementException", "SHARE; NoSuchElementException: others.",
                () -> slots(SHARES, (x, supplier, slot) -> x.share(supplier, slot)));
        heading(21, "sum", "int sum(int supplier) throws NoSuchElementException", "SHARES of all slots, together; "
                + "NoSuchElementException: others.", FaceBounds::sum);
        heading(22, "gaps", "int gaps(int meter)", "GAPS, as bits; NONE: others.", FaceBounds::gaps);
        heading(23, "stands", "int stands(int meter, int place)", "STANDS; NONE: others, no register, it is not known.", FaceBounds::stands);
        heading(24, "proof", "int proof(int slot) throws NoSuchElementException", "PROOF; NoSuchElementException: others.",
                () -> slots(PROOFS, (x, none, slot) -> x.proof(slot)));
        heading(25, "worst", "int worst()", "WORST; NONE: no slots.", FaceBounds::worst);
        heading(26, "lost", "int lost()", "LOST.", FaceBounds::lost);
    }

    private static void laidDown() {
        heading(27, "settled", "int settled(int run, int supplier, int slot) throws NoSuchElementException", "SETTLED; "
                + "NoSuchElementException: others, no such RUN.", () -> runs((x, run, supplier, slot) -> x.settled(run, supplier, slot), 59, 0));
        heading(28, "difference", "int difference(int run, int supplier, int slot) throws NoSuchElementException", "DIFFERENCE; "
                + "NoSuchElementException: others, no such RUN.", () -> runs((x, run, supplier, slot) -> x.difference(run, supplier, slot), 59, -59));
        heading(29, "drift", "int drift(int supplier) throws NoSuchElementException", "DRIFT; NoSuchElementException: others.", FaceBounds::drift);
        heading(30, "accounts", "int accounts()", "ACCOUNTS, how many (0: no RUN).", FaceBounds::accounts);
        heading(31, "account", "int account(int i, int what) throws NoSuchElementException", "Of the i-th ACCOUNT (from 0), what 0: SUPPLIER, "
                + "1: CLASS, 2: sum; NoSuchElementException: others, none such.", FaceBounds::account);
        heading(32, "owes", "int owes(int supplier, int kind) throws NoSuchElementException", "OWES (0: there is no such ACCOUNT); "
                + "NoSuchElementException: others.", FaceBounds::owes);
    }

    private static void tried() {
        heading(33, "swing", "int swing(int meter, int place, int says, int supplier) throws NoSuchElementException", "SWING; "
                + "NoSuchElementException: others.", FaceBounds::swing);
        heading(34, "gains", "int gains(int meter, int supplier) throws NoSuchElementException", "GAINS; NoSuchElementException: others.",
                FaceBounds::gains);
        heading(35, "bears", "int bears(int meter)", "BEARS; NONE: others.", FaceBounds::bears);
        heading(36, "heaviest", "int heaviest()", "HEAVIEST (a BOOK for each METER); NONE: no METERS.", FaceBounds::heaviest);
        heading(37, "see", "boolean see(int slot, int units, boolean more)", "SEEN: true; false: others, 8 there are.", FaceBounds::see);
        heading(38, "who", "int who()", "WHO, as bits.", FaceBounds::who);
        heading(39, "ask", "int ask()", "ASK; NONE: none parts them.", FaceBounds::ask);
        heading(40, "days", "int days(int seed, int many, int what) throws NoSuchElementException", "DAYS by a SEED (0 to 9999), "
                + "what 0, 1, 2: how many, how many, a slot (NONE: no slots); NoSuchElementException: others (no BOOK is opened).", FaceBounds::days);
        heading(41, "mark", "boolean mark(int mark, boolean back)", "A MARK is laid (back: gone back to): true; false: none such, "
                + "nothing is on it (back).", FaceBounds::mark);
        heading(42, "count", "int count(int what)", "What 0: slots, 1: CLASSES, 2: SUPPLIERS, 3: METERS, 4: how many readings there are, "
                + "5: RUNS, 6: BOOKS that were shut, 7: lines of the WORK, 8: SEEN, 9: what can be undone, 10: signs on the TAPE. "
                + "NONE for another what.", FaceBounds::count);
        Sentences.holds("The constants: `NONE = -1`: None.", () -> Check.due("NONE", -1, FeederShares.NONE));
    }

    private static void heading(int number, String name, String face, String words, Runnable test) {
        Sentences.holds("## Promise " + number + ": " + name + " `" + face + "`: " + words, test);
    }

    // ---- numbers that are none of so many

    private static int[] outside(int many) {
        return new int[] {-1, many, many + 1, 1 << 20, 1 << 28, 1 << 30, Integer.MAX_VALUE, Integer.MIN_VALUE, Integer.MIN_VALUE + many};
    }

    private interface OfSlot {
        int answer(FeederShares x, int which, int slot);
    }

    private interface OfRun {
        int answer(FeederShares x, int run, int supplier, int slot);
    }

    /** What is there is answered; what is beside it, or not there at all, is refused, and changes nothing. */
    private static void slots(int[][] due, OfSlot call) {
        FeederShares x = HandBounds.fourRead();
        for (int which = 0; which < due.length; which++) {
            for (int slot = 0; slot < 4; slot++) {
                Check.due("of " + which + " in slot " + slot, due[which][slot], call.answer(x, which, slot));
            }
        }
        for (int none : outside(4)) {
            Check.refused("no slot " + none, () -> call.answer(x, 0, none));
        }
        for (int none : outside(due.length)) {
            if (due.length > 1) {
                Check.refused("none such, " + none, () -> call.answer(x, none, 0));
            }
        }
        Check.due("five readings still", 5, x.count(4));
        Check.refused("of a new object", () -> call.answer(new FeederShares(), 0, 0));
    }

    private static void runs(OfRun call, int first, int second) {
        FeederShares x = HandBounds.fourRead();
        Check.refused("no run yet", () -> call.answer(x, 0, 0, 0));
        x.run();
        x.move(0, 1, 0);
        x.run();
        Check.due("of the first run", first, call.answer(x, 0, 0, 0));
        Check.due("of the second one", second, call.answer(x, 1, 0, 0));
        Check.due("of the last slot", -7, call.answer(x, 0, 1, 3));
        for (int none : outside(2)) {
            Check.refused("no run", () -> call.answer(x, none, 0, 0));
            Check.refused("no supplier", () -> call.answer(x, 0, none, 0));
        }
        for (int none : outside(4)) {
            Check.refused("no slot", () -> call.answer(x, 1, 0, none));
        }
        x.undo();
        Check.refused("undone", () -> call.answer(x, 1, 0, 0));
        Check.refused("of a new object", () -> call.answer(new FeederShares(), 0, 0, 0));
    }

    // ---- promises 1 to 13

    private static void newObject() {
        FeederShares x = new FeederShares();
        FeederShares y = new FeederShares();
        Check.feed(x, "slots 3 ;");
        x.grid();
        Check.due("another object has none of it", 0, y.count(0));
        Check.due("nor what is on its tape", 0, y.count(10));
        Check.due("nothing is laid", false, y.mark(0, true));
    }

    private static void feed() {
        FeederShares x = new FeederShares();
        Check.due("24 signs", 24, x.feed(0x736c6f7473203132L, 0x3b636c6173732061L, 0x206c6f737320372aL));
        Check.due("none", 24, x.feed(0, 0, 0));
        Check.due("none of the bytes beyond 126", 24, x.feed(-1, Long.MIN_VALUE, 0x7f7f7f7f7f7f7f7fL));
        Check.due("the last one", 1 + 16 * 23, x.grid());
        Check.due("of each the highest first", 9, x.feed(0x736c6f7400000000L, 0x73L, 0x0020320a3b000000L));
        Check.due("it is told so", 0, x.grid());
        Check.due("two slots", 2, x.count(0));
        FeederShares y = new FeederShares();
        for (int i = 1; i <= 42; i++) {
            Check.due("blanks", Math.min(1000, 24 * i), y.feed(0x2020202020202020L, 0x0a0a0a0a0a0a0a0aL, 0x2020202020202020L));
        }
        Check.due("beyond 1,000", 1000, y.feed(0x3b3b3b3b3b3b3b3bL, 0, 0));
        Check.due("so it is empty", 0, y.grid());
        Check.due("and free again", 1, y.feed(0, 0x3b00L, 0));
    }

    private static void grid() {
        FeederShares x = HandBounds.fourRead();
        String ahead = Snapshot.of(x);
        for (String wrong : new String[] {"slots 0 ;", "slots 2 ; feeder 1 ; supplier x", "slots 3 ; ?", "smears", "class x loss 1 profile 1 ; class x"}) {
            Check.feed(x, wrong);
            Check.due("a fault", true, x.grid() > 0);
        }
        Check.same("all stays then", ahead, Snapshot.of(x));
        Check.feed(x, "slots 2 ;");
        Check.due("none", 0, x.grid());
        Check.due("two slots", 2, x.count(0));
        Check.due("an empty tape", 0, x.grid());
        Check.due("no slots", 0, x.count(0));
    }

    private static void work() {
        FeederShares x = HandBounds.fourRead();
        Check.work(x, 0, "run ; total 3 5 ;");
        String ahead = Snapshot.of(x);
        for (String wrong : new String[] {"run", "run ; read a 4 0 ;", "move a z 0 ;", "?", "slots 2 ;"}) {
            Check.feed(x, wrong);
            Check.due("a fault", true, x.work() > 0);
        }
        Check.same("all stays then", ahead, Snapshot.of(x));
        Check.due("the work, too", 1, x.judged(1));
        Check.due("an empty tape", 0, x.work());
        Check.due("no line", 0, x.count(7));
    }

    private static void meter() {
        FeederShares x = HandBounds.fourRead();
        int[][] due = {{0, 0, 1}, {1, 0, 2}, {2, 1, 1}, {3, 1, 1}};
        for (int meter = 0; meter < 4; meter++) {
            for (int what = 0; what < 3; what++) {
                Check.due("meter " + meter + ", " + what, due[meter][what], x.meter(meter, what));
            }
        }
        x.read(1, 4, 5);
        Check.due("a place counts once", 2, x.meter(1, 2));
        for (int none : outside(4)) {
            Check.due("no meter", -1, x.meter(none, 0));
        }
        for (int none : outside(3)) {
            Check.due("no what", -1, x.meter(0, none));
        }
        Check.due("of a new object", -1, new FeederShares().meter(0, 0));
    }

    private static void with() {
        FeederShares x = HandBounds.fourRead();
        for (int slot = 0; slot < 4; slot++) {
            Check.due("a", 0, x.with(0, slot));
            Check.due("d", 1, x.with(3, slot));
        }
        for (int none : outside(4)) {
            Check.due("no meter", -1, x.with(none, 0));
            Check.due("no slot", -1, x.with(0, none));
            Check.due("no slot of a register, either", -1, x.with(1, none));
        }
        Check.due("of a new object", -1, new FeederShares().with(0, 0));
    }

    private static void says() {
        FeederShares x = HandBounds.fourRead();
        Check.due("a register's last place", 180, x.says(1, 4));
        Check.due("its first one", 100, x.says(1, 0));
        Check.due("not read there", -1, x.says(1, 3));
        x.read(3, 3, 0);
        Check.due("0 is said", 0, x.says(3, 3));
        for (int none : outside(4)) {
            Check.due("no meter", -1, x.says(none, 0));
            Check.due("no place of another", -1, x.says(0, none));
        }
        for (int none : outside(5)) {
            Check.due("no place of a register", -1, x.says(1, none));
        }
        Check.due("of a new object", -1, new FeederShares().says(0, 0));
    }

    private static void readWithin(FeederShares x, int meter, int last, int most) {
        Check.due("the first place, the most", -1, x.read(meter, 0, most));
        Check.due("what it said", most, x.read(meter, 0, 0));
        Check.due("the last place, the least", -1, x.read(meter, last, 0));
        Check.due("what it said", 0, x.read(meter, last, most));
        for (int none : outside(last + 1)) {
            Check.due("no place", -2, x.read(meter, none, 0));
        }
        for (int none : outside(most + 1)) {
            Check.due("it can't say that", -2, x.read(meter, 0, none));
        }
        Check.due("what is refused changes nothing", 0, x.says(meter, 0));
        Check.due("two places", 2, x.meter(meter, 2));
    }

    private static void read() {
        for (int meter = 0; meter < 4; meter++) {
            FeederShares x = Check.told(FOUR);
            readWithin(x, meter, meter == 1 ? 4 : 3, meter == 1 ? 9999 : 999);
            Check.due("what is refused can't be undone", 4, x.count(9));
            for (int none : outside(4)) {
                Check.due("no meter", -2, x.read(none, 0, 0));
            }
        }
        Check.due("of a new object", -2, new FeederShares().read(0, 0, 0));
        FeederShares y = Check.told("class k loss 0 profile 0 ; supplier s ; meter r register class k with s ; meter f flat class k with s ;");
        Check.due("without slots a register has a place", -1, y.read(0, 0, 3));
        Check.due("but no second one", -2, y.read(0, 1, 3));
        Check.due("and others have none", -2, y.read(1, 0, 3));
    }

    private static void move() {
        FeederShares x = Check.told(FOUR);
        Check.due("in that slot it was with x", 0, x.move(0, 1, 3));
        Check.due("in that slot it was with y", 1, x.move(0, 1, 3));
        Check.due("ahead with x", 0, x.move(0, 1, 0));
        for (int none : outside(4)) {
            Check.due("no meter", -1, x.move(none, 0, 0));
            Check.due("no slot", -1, x.move(0, 0, none));
            Check.due("no slot of a register, either", -1, x.move(1, 0, none));
        }
        for (int none : outside(2)) {
            Check.due("no supplier", -1, x.move(0, none, 0));
        }
        Check.due("what is refused changes nothing", 1, x.with(0, 0));
        Check.due("and can't be undone", 3, x.count(9));
        Check.due("of a new object", -1, new FeederShares().move(0, 0, 0));
    }

    private static void total() {
        FeederShares x = Check.told(FOUR);
        Check.due("as told", 100, x.total(0, 0));
        Check.due("the least", 0, x.total(0, 9999));
        Check.due("the most", 9999, x.total(0, 8));
        Check.due("the last slot", 0, x.total(3, 8));
        for (int none : outside(10000)) {
            Check.due("it can't be", -1, x.total(0, none));
        }
        for (int none : outside(4)) {
            Check.due("no slot", -1, x.total(none, 0));
        }
        Check.due("what is refused changes nothing", 8, x.residual(0));
        Check.due("and can't be undone", 4, x.count(9));
        Check.due("of a new object", -1, new FeederShares().total(0, 0));
    }

    private static void run() {
        FeederShares x = Check.told(FOUR);
        for (int number = 0; number < 4; number++) {
            Check.due("its number", number, x.run());
        }
        Check.due("it can't be", -1, x.run());
        Check.due("what is refused changes nothing", 4, x.count(5));
        Check.due("and can't be undone", 4, x.count(9));
        Check.due("even with nothing", 0, new FeederShares().run());
    }

    private static void undo() {
        FeederShares x = Check.told(FOUR);
        Check.due("nothing can be", false, x.undo());
        x.read(0, 0, 1);
        Check.due("undone", true, x.undo());
        Check.due("nothing can be", false, x.undo());
        x.read(0, 0, 1000);
        x.move(0, 2, 0);
        x.total(4, 0);
        Check.due("what was refused can't be", false, x.undo());
        Check.due("of a new object", false, new FeederShares().undo());
    }

    private static void judged() {
        FeederShares x = Check.told(TWO);
        Check.work(x, 0, "run ; total 0 1 ; run ; run ; run ; run ; run ;");
        Check.due("a line", 5, x.judged(0));
        Check.due("runs", 4, x.judged(1));
        Check.due("shares", 21, x.judged(2));
        Check.work(x, 0, "");
        Check.due("none", -1, x.judged(0));
        for (int none : outside(3)) {
            Check.refused("no what", () -> x.judged(none));
        }
        Check.due("of a new object", 0, new FeederShares().judged(2));
    }

    // ---- promises 21 to 26

    private static void sum() {
        FeederShares x = HandBounds.fourRead();
        Check.due("x", 59 + 27 + 41 + 7, x.sum(0));
        Check.due("y", 41 + 23 + 19 - 7, x.sum(1));
        for (int none : outside(2)) {
            Check.refused("no supplier", () -> x.sum(none));
        }
        Check.refused("of a new object", () -> new FeederShares().sum(0));
        Check.due("without slots", 0, Check.told("supplier s ;").sum(0));
    }

    private static void gaps() {
        FeederShares x = HandBounds.fourRead();
        int[] due = {14, 0, 13, 14};
        for (int meter = 0; meter < 4; meter++) {
            Check.due("gaps", due[meter], x.gaps(meter));
        }
        for (int none : outside(4)) {
            Check.due("no meter", -1, x.gaps(none));
        }
        Check.due("of a new object", -1, new FeederShares().gaps(0));
    }

    private static void stands() {
        FeederShares x = HandBounds.fourRead();
        int[] due = {100, 116, 148, 164, 180};
        for (int place = 0; place < 5; place++) {
            Check.due("stands", due[place], x.stands(1, place));
        }
        for (int meter = 0; meter < 4; meter++) {
            Check.due("of a register alone", meter == 1 ? 100 : -1, x.stands(meter, 0));
        }
        for (int none : outside(5)) {
            Check.due("no place", -1, x.stands(1, none));
        }
        for (int none : outside(4)) {
            Check.due("no meter", -1, x.stands(none, 0));
        }
        x.undo();
        x.undo();
        x.undo();
        Check.due("it is not known", -1, x.stands(1, 3));
        Check.due("of a new object", -1, new FeederShares().stands(0, 0));
    }

    private static void worst() {
        Check.due("66, -12, 16, -44", 0, HandBounds.fourRead().worst());
        Check.due("no slots", -1, new FeederShares().worst());
        Check.due("no slots told", -1, Check.told("feeder 9 ; supplier s ;").worst());
        Check.due("one slot", 0, Check.told("slots 1 ;").worst());
    }

    private static void lost() {
        Check.due("2 four times, 1, 3, 1 and 1", 14, HandBounds.fourRead().lost());
        Check.due("of a new object", 0, new FeederShares().lost());
    }

    // ---- promises 29 to 32

    private static void drift() {
        FeederShares x = HandBounds.fourRead();
        Check.due("no run", 0, x.drift(0));
        for (int turn = 0; turn < 2; turn++) {
            for (int none : outside(2)) {
                Check.refused("no supplier", () -> x.drift(none));
            }
            x.run();
            x.move(0, 1, 2);
        }
        Check.due("as it was by the last run", 0, x.drift(0));
        x.undo();
        x.undo();
        Check.due("30 of slot 2 and 0 of slot 3", -30, x.drift(0));
        Check.refused("of a new object", () -> new FeederShares().drift(0));
    }

    private static void accounts() {
        FeederShares x = HandBounds.fourRead();
        Check.due("no run", 0, x.accounts());
        x.run();
        Check.due("four", 4, x.accounts());
        x.undo();
        Check.due("no run again", 0, x.accounts());
        Check.due("of a new object", 0, new FeederShares().accounts());
    }

    private static void account() {
        FeederShares x = HandBounds.fourRead();
        Check.refused("no run", () -> x.account(0, 0));
        x.run();
        int[][] due = {{0, 0, 107}, {1, 0, 97}, {0, 1, 27}, {1, 1, -21}};
        for (int i = 0; i < 4; i++) {
            for (int what = 0; what < 3; what++) {
                Check.due("account " + i + ", " + what, due[i][what], x.account(i, what));
            }
        }
        for (int none : outside(4)) {
            Check.refused("none such", () -> x.account(none, 0));
        }
        for (int none : outside(3)) {
            Check.refused("no what", () -> x.account(0, none));
        }
        Check.refused("of a new object", () -> new FeederShares().account(0, 0));
    }

    private static void owes() {
        FeederShares x = HandBounds.fourRead();
        Check.due("no run", 0, x.owes(0, 0));
        x.move(2, 1, 0);
        x.run();
        Check.due("a", 107, x.owes(0, 0));
        Check.due("no such account", 0, x.owes(0, 1));
        Check.due("c and d", 27 - 21, x.owes(1, 1));
        for (int none : outside(2)) {
            Check.refused("no supplier", () -> x.owes(none, 0));
            Check.refused("no class", () -> x.owes(0, none));
        }
        Check.refused("of a new object", () -> new FeederShares().owes(0, 0));
    }

    // ---- promises 33 to 42

    private static void swing() {
        FeederShares x = HandBounds.fourRead();
        for (int none : outside(4)) {
            Check.refused("no meter", () -> x.swing(none, 0, 0, 0));
            Check.refused("no place", () -> x.swing(0, none, 0, 0));
        }
        for (int none : outside(5)) {
            Check.refused("no place of a register", () -> x.swing(1, none, 0, 0));
        }
        for (int none : outside(2)) {
            Check.refused("no supplier", () -> x.swing(0, 0, 0, none));
        }
        Check.due("no book", 0, x.count(6));
        for (int none : outside(1000)) {
            Check.refused("no meter says that", () -> x.swing(3, 0, none, 0));
        }
        for (int none : outside(10000)) {
            Check.refused("no register says that", () -> x.swing(1, 0, none, 0));
        }
        Check.due("as it is", 0, x.swing(0, 0, 20, 0));
        Check.refused("of a new object", () -> new FeederShares().swing(0, 0, 0, 0));
    }

    private static void gains() {
        FeederShares x = HandBounds.fourRead();
        for (int none : outside(4)) {
            Check.refused("no meter", () -> x.gains(none, 0));
        }
        for (int none : outside(2)) {
            Check.refused("no supplier", () -> x.gains(0, none));
        }
        Check.due("no book", 0, x.count(6));
        Check.due("all of a", 107, x.gains(0, 1));
        Check.due("less than nothing of d", -21, x.gains(3, 0));
        Check.refused("of a new object", () -> new FeederShares().gains(0, 0));
    }

    private static void bears() {
        FeederShares x = HandBounds.fourRead();
        for (int none : outside(4)) {
            Check.due("no meter", -1, x.bears(none));
        }
        Check.due("no book", 0, x.count(6));
        x.read(3, 0, 0);
        Check.due("as if it were not read", 0, x.bears(3));
        Check.due("of a new object", -1, new FeederShares().bears(0));
    }

    private static void heaviest() {
        FeederShares x = HandBounds.fourRead();
        int heaviest = x.heaviest();
        Check.due("a book for each", 4, x.count(6));
        for (int meter = 0; meter < 4; meter++) {
            Check.due("none bears more", true, x.bears(meter) <= x.bears(heaviest));
        }
        FeederShares y = Check.told("slots 2 ; class k loss 0 profile 0 ; supplier s ;");
        Check.due("no meters", -1, y.heaviest());
        Check.due("no book", 0, y.count(6));
        Check.due("of a new object", -1, new FeederShares().heaviest());
    }

    private static void see() {
        FeederShares x = HandBounds.fourRead();
        for (int none : outside(4)) {
            Check.due("no slot", false, x.see(none, 0, true));
        }
        for (int none : new int[] {-10000, 10000, Integer.MIN_VALUE, Integer.MAX_VALUE}) {
            Check.due("no share can be told so", false, x.see(0, none, false));
        }
        Check.due("nothing is seen", 0, x.count(8));
        for (int i = 0; i < 8; i++) {
            Check.due("seen", true, x.see(3, i % 2 == 0 ? 9999 : -9999, i % 2 == 1));
        }
        Check.due("8 there are", false, x.see(0, 0, true));
        Check.due("all are so", 3, x.who());
        Check.due("of a new object", false, new FeederShares().see(0, 0, true));
    }

    private static void who() {
        FeederShares x = HandBounds.fourRead();
        Check.due("both", 3, x.who());
        x.see(0, 50, true);
        Check.due("59 and 41", 1, x.who());
        x.see(3, 0, false);
        Check.due("7 and -7", 0, x.who());
        Check.due("of a new object", 0, new FeederShares().who());
    }

    private static void ask() {
        FeederShares x = HandBounds.fourRead();
        Check.due("slot 0 parts them", 0, x.ask());
        x.see(0, 50, true);
        Check.due("there is one", -1, x.ask());
        x.see(0, 50, false);
        Check.due("there is none", -1, x.ask());
        Check.due("of a new object", -1, new FeederShares().ask());
    }

    private static void days() {
        FeederShares x = HandBounds.fourRead();
        for (int none : outside(10000)) {
            Check.refused("no seed", () -> x.days(none, 1, 0));
        }
        for (int none : new int[] {0, -1, 61, Integer.MIN_VALUE, Integer.MAX_VALUE}) {
            Check.refused("so many can't be", () -> x.days(1, none, 0));
        }
        for (int none : outside(3)) {
            Check.refused("no what", () -> x.days(1, 1, none));
        }
        Check.due("no book is opened", 0, x.count(6));
        int most = 0;
        for (int seed : new int[] {0, 9999}) {
            for (int what = 0; what < 3; what++) {
                x.days(seed, 1, what);
                most = x.days(seed, 60, what);
            }
        }
        Check.due("a slot", true, most >= 0 && most < 4);
        Check.due("a book for each", 12, x.count(6));
        Check.due("no slots", -1, new FeederShares().days(0, 1, 2));
        Check.due("no slots, none is open", 0, new FeederShares().days(0, 1, 1));
    }

    private static void mark() {
        FeederShares x = HandBounds.fourRead();
        for (int mark = 0; mark < 2; mark++) {
            Check.due("nothing is on it", false, x.mark(mark, true));
            Check.due("what is refused changes nothing", 5, x.count(9));
        }
        for (int mark = 1; mark >= 0; mark--) {
            Check.due("laid", true, x.mark(mark, false));
            x.read(0, 1, mark);
        }
        Check.due("gone back to", true, x.mark(1, true));
        Check.due("it was not read then", -1, x.says(0, 1));
        Check.due("gone back to", true, x.mark(0, true));
        Check.due("it was read then", 1, x.says(0, 1));
        for (int none : outside(2)) {
            Check.due("none such", false, x.mark(none, false));
            Check.due("none such", false, x.mark(none, true));
        }
        Check.due("of a new object", false, new FeederShares().mark(0, true));
        Check.due("of a new object", true, new FeederShares().mark(0, false));
    }

    private static void count() {
        FeederShares x = Check.told("slots 5 ; class k loss 0 profile 0 ; supplier s ; supplier t ; supplier u ; "
                + "meter m flat class k with s ; meter n register class k with s ;");
        x.read(0, 0, 1);
        x.read(0, 0, 2);
        x.read(1, 5, 2);
        x.run();
        x.heaviest();
        x.heaviest();
        x.see(0, 0, true);
        x.see(0, 0, true);
        x.see(0, 0, true);
        Check.work(x, 0, "run ; run ; run ; run ; run ; run ;");
        x.feed(0x2020202020202020L, 0, 0);
        int[] due = {5, 1, 3, 2, 2, 1, 4, 6, 3, 4, 8};
        for (int what = 0; what < due.length; what++) {
            Check.due("count " + what, due[what], x.count(what));
        }
        for (int none : outside(11)) {
            Check.due("another what", -1, x.count(none));
        }
    }
}
