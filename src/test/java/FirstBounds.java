import java.lang.reflect.Modifier;
import java.util.Set;

/** What the document says ahead of its terms: what it is, and the public face; and what it leaves open. */
final class FirstBounds {
    private static final String FOUR = HandBounds.FOUR;

    private FirstBounds() {
    }

    static void all() throws IllegalAccessException {
        Sentences.asksNothing("# FeederShares ## What it is");
        told();
        asked();
        Sentences.holds("An object is used for at most 512 calls after it has been made; what later calls answer is free.",
                FirstBounds::useOfAnObject);
        face();
        Sentences.asksNothing("## Not promised");
        Sentences.asksNothing("How the state is held inside the object is free, as are the speed of each call, the text of toString "
                + "and the behaviour of equals and hashCode.");
        Sentences.asksNothing("Use of one object from several threads at once is not promised to be safe.");
        Sentences.holds("Nothing is promised beyond the answers and state changes described above", FirstBounds::nothingBeyond);
        Sentences.asksNothing("and nothing about an object after its 512th call.");
    }

    private static void told() {
        Sentences.holds("Power settlement: interval meters and profiled meters brought to feeder totals each half hour",
                FirstBounds::broughtToTotals);
        Sentences.holds("the residual smeared by class", FirstBounds::smearedByClass);
        Sentences.holds("runs repeated as readings arrive", FirstBounds::runsRepeated);
        Sentences.holds("grids told in a language, with the slots of a day, what the feeder brought, classes by loss and profile, "
                + "suppliers, meters of four kinds, a law by what the residual is smeared", FirstBounds::gridsTold);
        Sentences.holds("readings, moves from one supplier to another one, totals, runs, by hand, undone, and told works judged",
                FirstBounds::byHandUndoneJudged);
    }

    private static void asked() {
        Sentences.holds("what a meter used in a slot, with its losses, which slots are not known, what a register would have stood at",
                FirstBounds::whatAMeterUsed);
        Sentences.holds("what is left of the feeder, by class, by meter, in whole units", FirstBounds::whatIsLeft);
        Sentences.holds("what each supplier has, whether they sum to the feeder", FirstBounds::whatEachSupplierHas);
        Sentences.holds("runs, their differences, how far what is known now has drifted from the last one", FirstBounds::runsAndDrift);
        Sentences.holds("the accounts of suppliers by class, in the order in which they came", FirstBounds::accountsInOrder);
        Sentences.holds("by how much a reading, a move would change them, which meter bears the most", FirstBounds::whatWouldChange);
        Sentences.holds("which supplier it was, by what was told of its shares, where to ask", FirstBounds::whichSupplierItWas);
        Sentences.holds("days by draws", FirstBounds::daysByDraws);
        Sentences.holds("and books that are shut behind each question.", FirstBounds::booksShut);
    }

    private static void face() throws IllegalAccessException {
        Sentences.holds("## The public face import java.util.NoSuchElementException; public final class FeederShares {", () -> {
            Check.due("public and final", Modifier.PUBLIC | Modifier.FINAL, FeederShares.class.getModifiers());
            Check.same("without a package", "", FeederShares.class.getPackageName());
        });
        Set<String> shown = Face.ofTheClass();
        for (String line : Face.LINES) {
            Sentences.holds(line, () -> Check.due("the class shows " + line, true, shown.contains(Face.withoutNames(line))));
        }
        Sentences.holds("public int count(int what); }", () -> Check.due("and nothing else", Face.LINES.size(), shown.size()));
    }

    // ---- what it is

    /** TWO, in which m uses 10 in both slots: s has 10 and 20, t nothing. */
    private static FeederShares twoRead() {
        FeederShares x = Check.told(HandBounds.TWO);
        x.read(0, 0, 10);
        return x;
    }

    private static void broughtToTotals() {
        FeederShares x = HandBounds.fourRead();
        int[] totals = {100, 50, 60, 0};
        for (int slot = 0; slot < 4; slot++) {
            Check.due("slot " + slot, totals[slot], x.share(0, slot) + x.share(1, slot));
        }
    }

    private static void smearedByClass() {
        FeederShares x = HandBounds.fourRead();
        int[][] due = {{66, -11, 14, -39}, {0, -1, 2, -5}};
        for (int slot = 0; slot < 4; slot++) {
            Check.due("home", due[0][slot], x.smear(0, slot));
            Check.due("shop", due[1][slot], x.smear(1, slot));
            Check.due("all of it", x.residual(slot), x.smear(0, slot) + x.smear(1, slot));
        }
    }

    private static void runsRepeated() {
        FeederShares x = Check.told(HandBounds.TWO);
        x.run();
        x.read(0, 0, 10);
        x.run();
        x.read(1, 1, 30);
        x.run();
        int[] due = {10, 20, 5};
        for (int run = 0; run < 3; run++) {
            Check.due("s by run " + run, due[run], x.settled(run, 0, 1));
        }
    }

    private static void gridsTold() {
        FeederShares x = Check.told(FOUR + "smears 1 ;");
        int[] many = {4, 2, 2, 4};
        for (int what = 0; what < 4; what++) {
            Check.due("count " + what, many[what], x.count(what));
        }
        Check.due("by the law, halves", 50, x.smear(1, 0));
        x.read(0, 0, 20);
        x.read(1, 0, 100);
        x.read(1, 4, 180);
        Check.due("what the feeder brought", 60, x.total(2, 60));
        Check.due("by loss", 22, x.gross(0, 0));
        Check.due("by profile", 32, x.use(1, 1));
        for (int kind = 0; kind < 4; kind++) {
            Check.due("kind", kind, x.meter(kind, 0));
            Check.due("with its supplier", kind % 2, x.with(kind, 3));
        }
    }

    private static void byHandUndoneJudged() {
        FeederShares x = Check.told(FOUR);
        Check.work(x, 0, "read a 0 20 ; run ; total 3 5 ;");
        Check.due("judged", 1, x.judged(1));
        String ahead = Snapshot.of(x);
        x.read(0, 0, 20);
        x.move(0, 1, 2);
        x.total(3, 5);
        x.run();
        Check.due("one run", 1, x.count(5));
        for (int deed = 0; deed < 4; deed++) {
            Check.due("undone", true, x.undo());
        }
        Check.same("as ahead", ahead, Snapshot.of(x));
    }

    private static void whatAMeterUsed() {
        FeederShares x = HandBounds.fourRead();
        Check.due("used", 20, x.use(0, 3));
        Check.due("with its losses", 22, x.gross(0, 3));
        Check.due("not known but in slot 0", 14, x.gaps(0));
        Check.due("stood at", 148, x.stands(1, 2));
    }

    private static void whatIsLeft() {
        FeederShares x = HandBounds.fourRead();
        Check.due("left", -12, x.residual(1));
        Check.due("by class", -11, x.smear(0, 1));
        int[] nets = {22 - 4, 35 - 7, 10 - 1, -5};
        for (int meter = 0; meter < 4; meter++) {
            Check.due("by meter", nets[meter], x.net(meter, 1));
        }
    }

    private static void whatEachSupplierHas() {
        FeederShares x = twoRead();
        Check.due("s", 30, x.sum(0));
        Check.due("t", 0, x.sum(1));
        Check.due("they do", 0, x.proof(0));
        FeederShares y = Check.told(FOUR);
        Check.due("nothing is smeared", 0, y.sum(0) + y.sum(1));
        Check.due("they do not", 100, y.proof(0));
    }

    private static void runsAndDrift() {
        FeederShares x = Check.told(HandBounds.TWO);
        x.run();
        x.read(0, 0, 10);
        Check.due("15 were laid down, 30 are known now", 15, x.drift(0));
        x.run();
        Check.due("laid down", 20, x.settled(1, 0, 1));
        Check.due("10 more", 10, x.difference(1, 0, 1));
        Check.due("t has 10 less", -10, x.difference(1, 1, 1));
        Check.due("nothing since", 0, x.drift(0));
    }

    private static void accountsInOrder() {
        FeederShares x = twoRead();
        x.move(0, 1, 1);
        x.run();
        int[][] due = {{0, 10}, {1, 20}};
        Check.due("two", 2, x.accounts());
        for (int i = 0; i < 2; i++) {
            Check.due("supplier", due[i][0], x.account(i, 0));
            Check.due("class", 0, x.account(i, 1));
            Check.due("sum", due[i][1], x.account(i, 2));
            Check.due("that is what it owes", due[i][1], x.owes(i, 0));
        }
    }

    private static void whatWouldChange() {
        FeederShares x = twoRead();
        Check.due("were 10 READ of n, each would have 5 and 10", 15, x.swing(1, 0, 10, 1));
        Check.due("all of m", 30, x.gains(0, 1));
        Check.due("15 less here, 15 more there", 30, x.bears(0));
        Check.due("n bears nothing", 0, x.bears(1));
        Check.due("so m", 0, x.heaviest());
    }

    private static void whichSupplierItWas() {
        FeederShares x = twoRead();
        Check.due("where to ask", 0, x.ask());
        x.see(0, 5, false);
        Check.due("t it was", 2, x.who());
        Check.due("nothing more to ask", -1, x.ask());
    }

    private static void daysByDraws() {
        // Of SEED 0 the draws are 0, 21468 and 9988: METER 0 says 9988 % 200 = 188 in slot 21468 % 2 = 0.
        FeederShares x = Check.told(HandBounds.TWO);
        FeederShares y = Check.told(HandBounds.TWO);
        y.read(0, 0, 188);
        Check.due("all shares", 30, x.days(0, 1, 0));
        Check.due("no slot is open", 0, x.days(0, 1, 1));
        Check.due("10 - 188 is worse than 20 - 188", 0, x.days(0, 1, 2));
        Check.due("as if it were read by hand", y.worst(), x.days(0, 1, 2));
        x.total(1, 400);
        Check.due("400 - 188 is worse", 1, x.days(0, 1, 2));
    }

    private static void booksShut() {
        FeederShares x = twoRead();
        x.run();
        String ahead = TriedBounds.withoutBooks(x);
        x.swing(1, 0, 10, 1);
        x.gains(0, 1);
        x.bears(0);
        x.heaviest();
        x.days(0, 60, 0);
        Check.due("each was shut, two of them of the heaviest", 6, x.count(6));
        Check.same("as ahead", ahead, TriedBounds.withoutBooks(x));
    }

    /** Told anew and asked the dearest questions up to its last call, it answers that as its first one. */
    private static void useOfAnObject() {
        FeederShares x = new FeederShares();
        int signs = Check.feed(x, HandBounds.TWO);
        Check.due("told", 0, x.grid());
        x.read(0, 0, 10);
        int calls = (signs + 23) / 24 + 3;
        int books = 0;
        for (; calls + 4 <= 510; calls += 4) {
            Check.due("the heaviest", 0, x.heaviest());
            Check.due("gains", 30, x.gains(0, 1));
            Check.due("days", 30, x.days(calls, 60, 0));
            Check.due("shares", 20, x.share(0, 1));
            books += 4;
        }
        for (; calls < 511; calls++) {
            Check.due("one reading", 1, x.count(4));
        }
        Check.due("the 512th call", books, x.count(6));
    }

    // ---- what it does not promise

    /** What one object is told changes no other one, and asking changes nothing. */
    private static void nothingBeyond() {
        FeederShares x = twoRead();
        x.run();
        x.see(0, 5, true);
        String ahead = Snapshot.of(x);
        FeederShares y = Check.told(FOUR + "smears 1 ;");
        y.read(0, 0, 999);
        y.mark(0, false);
        y.run();
        y.days(7, 60, 1);
        Check.same("another object is told", ahead, Snapshot.of(x));
        Check.same("asked twice", Snapshot.of(x), Snapshot.of(x));
    }
}
