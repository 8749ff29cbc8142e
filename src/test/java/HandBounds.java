/** Terms 2 of the document: READ, MOVE, TOTAL, RUN, UNDO, and JUDGED. */
final class HandBounds {
    /** Of four slots, with a METER of each KIND; a and c with x, b and d with y. */
    static final String FOUR = "slots 4 ; feeder 100 50 60 0 ; class home loss 100 profile 1 2 1 ; "
            + "class shop loss 0 profile 0 ; supplier x ; supplier y ; meter a interval class home with x ; "
            + "meter b register class home with y ; meter c flat class shop with x ; meter d export class shop with y ; ";

    /** Two slots, a CLASS, two SUPPLIERS with a METER each, by halves while nothing is READ. */
    static final String TWO = "slots 2 ; feeder 10 20 ; class k loss 0 profile 0 ; supplier s ; supplier t ; "
            + "meter m interval class k with s ; meter n interval class k with t ; smears 1 ; ";

    private HandBounds() {
    }

    static void all() {
        Sentences.asksNothing("==== 2.");
        Sentences.holds("READ: what a METER says at a place (in place of what it said there).", HandBounds::readInPlace);
        Sentences.holds("MOVE: a METER is with a SUPPLIER from a slot on, in all slots behind, too.", HandBounds::moveFromASlotOn);
        Sentences.holds("TOTAL: what the feeder brought in a slot.", HandBounds::totalOfASlot);
        Sentences.holds("RUN: what each SUPPLIER has in each slot, and the ACCOUNTS, are laid down", HandBounds::runLaysDown);
        Sentences.holds("if there are fewer than 4 RUNS.", HandBounds::fourRuns);
        Sentences.holds("UNDO: all of these,", HandBounds::undoOfAll);
        Sentences.holds("the last 8, one by one.", HandBounds::undoOfEight);
        Sentences.holds("JUDGED: the WORK from the GRID as told", HandBounds::judgedAsTold);
        Sentences.holds("the first line (from 0) that can't be (run, if there are 4; those are left out)", HandBounds::linesThatCannotBe);
        Sentences.holds("how many RUNS there are at last", HandBounds::runsOfTheWork);
        Sentences.holds("all SHARES of all slots at last, together (its RUNS, ACCOUNTS are its own).", HandBounds::sharesOfTheWork);
    }

    /** FOUR, READ as in the first run of ../shared/tests. */
    static FeederShares fourRead() {
        FeederShares x = Check.told(FOUR);
        x.read(0, 0, 20);
        x.read(1, 0, 100);
        x.read(1, 4, 180);
        x.read(2, 1, 10);
        x.read(3, 0, 5);
        return x;
    }

    private static void readInPlace() {
        FeederShares x = Check.told(FOUR);
        Check.due("nothing was said", -1, x.read(0, 3, 999));
        Check.due("one reading", 1, x.count(4));
        Check.due("in its place", 999, x.read(0, 3, 0));
        Check.due("it says that", 0, x.says(0, 3));
        Check.due("0 is said, too", 0, x.read(0, 3, 7));
        Check.due("still one reading", 1, x.count(4));
        Check.due("nothing at the place ahead", -1, x.says(0, 2));
        Check.due("nothing by another meter", -1, x.says(1, 3));
    }

    private static void moveFromASlotOn() {
        FeederShares x = Check.told(FOUR);
        int[][] moves = {{1, 2}, {0, 3}, {1, 1}, {0, 0}, {1, 3}};
        int[][] due = {{0, 0, 1, 1}, {0, 0, 1, 0}, {0, 1, 1, 1}, {0, 0, 0, 0}, {0, 0, 0, 1}};
        int[] was = {0, 1, 0, 0, 0};
        for (int i = 0; i < moves.length; i++) {
            Check.due("was with", was[i], x.move(0, moves[i][0], moves[i][1]));
            for (int slot = 0; slot < 4; slot++) {
                Check.due("move " + i + ", slot " + slot, due[i][slot], x.with(0, slot));
                Check.due("another meter stays", 0, x.with(2, slot));
            }
        }
    }

    private static void totalOfASlot() {
        FeederShares x = Check.told(FOUR);
        Check.due("as told", 0, x.total(3, 9999));
        Check.due("the last slot", 9999, x.residual(3));
        Check.due("another stays", 60, x.residual(2));
        Check.due("as told", 100, x.total(0, 0));
        Check.due("the first slot", 0, x.residual(0));
        Check.due("what it was", 9999, x.total(3, 1));
    }

    private static void runLaysDown() {
        FeederShares x = Check.told(TWO);
        x.run();
        Check.due("s in slot 0", 5, x.settled(0, 0, 0));
        Check.due("t in slot 1", 10, x.settled(0, 1, 1));
        Check.due("an account of each", 2, x.accounts());
        Check.due("of s", 15, x.account(0, 2));
        x.total(0, 100);
        x.move(0, 1, 0);
        Check.due("laid down is laid down", 5, x.settled(0, 0, 0));
        Check.due("the accounts, too", 15, x.owes(0, 0));
        x.run();
        Check.due("the first run stays", 5, x.settled(0, 0, 0));
        Check.due("the second is as it is now", 0, x.settled(1, 0, 0));
        Check.due("the second is as it is now", 100, x.settled(1, 1, 0));
    }

    private static void fourRuns() {
        FeederShares x = Check.told(TWO);
        for (int run = 0; run < 4; run++) {
            Check.due("its number", run, x.run());
        }
        Check.due("a fifth can't be", -1, x.run());
        Check.due("four", 4, x.count(5));
        Check.due("what can't be can't be undone", 4, x.count(9));
        x.total(0, 3);
        Check.due("a fifth can't be", -1, x.run());
        Check.due("the fourth stays", 5, x.settled(3, 0, 0));
        x.undo();
        x.undo();
        Check.due("when one is undone there can be one", 3, x.run());
        Check.due("laid down anew", 5, x.settled(3, 0, 0));
        Check.due("its accounts, too", 15, x.owes(0, 0));
    }

    private static void undoOfAll() {
        FeederShares x = Check.told(TWO);
        String told = Snapshot.of(x);
        x.read(0, 0, 20);
        String read = Snapshot.of(x);
        x.move(0, 1, 1);
        String moved = Snapshot.of(x);
        x.total(1, 5);
        String brought = Snapshot.of(x);
        x.run();
        Check.due("undone", true, x.undo());
        Check.same("without the run", brought, Snapshot.of(x));
        Check.due("undone", true, x.undo());
        Check.same("without the total", moved, Snapshot.of(x));
        Check.due("undone", true, x.undo());
        Check.same("without the move", read, Snapshot.of(x));
        Check.due("undone", true, x.undo());
        Check.same("without the reading", told, Snapshot.of(x));
        Check.due("no more", false, x.undo());
        Check.same("all stays then", told, Snapshot.of(x));
    }

    private static void undoOfEight() {
        FeederShares x = Check.told(FOUR);
        for (int i = 1; i <= 10; i++) {
            x.read(0, 0, i);
            Check.due("can be undone", Math.min(8, i), x.count(9));
        }
        for (int i = 9; i >= 2; i--) {
            Check.due("undone", true, x.undo());
            Check.due("it says", i, x.says(0, 0));
            Check.due("are left", i - 2, x.count(9));
        }
        Check.due("the ninth from the end", false, x.undo());
        Check.due("it stays", 2, x.says(0, 0));
        FeederShares y = Check.told(FOUR);
        y.move(0, 1, 2);
        y.total(0, 7);
        for (int i = 0; i < 7; i++) {
            y.run();
            y.read(0, 0, i);
        }
        for (int i = 0; i < 8; i++) {
            y.undo();
        }
        Check.due("of the seven readings and four runs two stand", 2, y.count(5));
        Check.due("the first reading", 0, y.says(0, 0));
        Check.due("the move", 1, y.with(0, 3));
        Check.due("the total, too long ago", 7, y.total(0, 7));
        FeederShares z = Check.told(TWO);
        z.see(0, 1, true);
        z.bears(0);
        z.mark(0, false);
        Check.due("nothing else can be undone", 0, z.count(9));
        z.read(0, 0, 1);
        z.read(0, 0, 1);
        Check.due("what changes nothing can be", 2, z.count(9));
    }

    private static void judgedAsTold() {
        FeederShares x = Check.told("slots 2 ; feeder 10 7 ; class k loss 0 profile 0 ; supplier s ; meter m interval class k with s ;");
        Check.due("without a work no line", -1, x.judged(0));
        Check.due("without a work no run", 0, x.judged(1));
        Check.due("nothing is read, nothing smeared", 0, x.judged(2));
        x.read(0, 0, 3);
        x.total(0, 99);
        x.run();
        Check.due("what was done by hand is not in it", 0, x.judged(2));
        Check.due("its runs neither", 0, x.judged(1));
        Check.work(x, 0, "read m 1 1 ;");
        Check.due("7 of slot 1", 7, x.judged(2));
        FeederShares y = Check.told("slots 3 ; feeder 10 7 ; class k loss 0 profile 0 ; supplier s ; meter m register class k with s ; "
                + "meter n export class k with s ; smears 0 ;");
        Check.work(y, 0, "read m 1 100 ; read n 1 4 ; read m 3 107 ; read n 2 1 ; total 2 5 ;");
        Check.due("3 and 4 less 4 and 1", 2, y.judged(2));
        Check.work(y, 0, "read m 1 100 ; read m 3 107 ; read m 1 9999 ;");
        Check.due("in place of what it said: 108", 108, y.judged(2));
        String ahead = Snapshot.of(x);
        x.judged(0);
        Check.same("all stays", ahead, Snapshot.of(x));
    }

    private static void linesThatCannotBe() {
        FeederShares x = Check.told(FOUR);
        Check.work(x, 0, "run ; run ; run ; run ;");
        Check.due("four can be", -1, x.judged(0));
        Check.work(x, 0, "run ; run ; run ; run ; run ;");
        Check.due("the fifth can't", 4, x.judged(0));
        Check.work(x, 0, "read a 0 1 ; run ; total 0 3 ; run ; run ; move a y 0 ; run ; read a 1 1 ; run ; run ;");
        Check.due("the first that can't", 8, x.judged(0));
        Check.due("those are left out", 4, x.judged(1));
        for (int run = 0; run < 4; run++) {
            x.run();
        }
        Check.due("runs by hand are not in its way", 8, x.judged(0));
        Check.work(x, 0, "total 0 3 ;".repeat(30));
        Check.due("all others can be", -1, x.judged(0));
        Check.work(x, 0, "run ;".repeat(30));
        Check.due("the fifth of thirty", 4, x.judged(0));
    }

    private static void runsOfTheWork() {
        FeederShares x = Check.told(FOUR);
        for (int many = 0; many <= 6; many++) {
            Check.work(x, 0, "run ;".repeat(many) + "total 0 1 ;");
            Check.due("runs of " + many, Math.min(4, many), x.judged(1));
        }
        x.run();
        Check.due("its runs are its own", 4, x.judged(1));
        Check.due("and mine are mine", 1, x.count(5));
    }

    private static void sharesOfTheWork() {
        FeederShares x = Check.told(TWO);
        Check.due("of all slots and suppliers", 30, x.judged(2));
        Check.work(x, 0, "total 1 5 ; run ; total 0 3 ;");
        Check.due("at last", 8, x.judged(2));
        Check.due("no accounts of mine", 0, x.accounts());
        x.run();
        x.judged(2);
        Check.due("my accounts stay", 15, x.owes(0, 0));
        Check.due("my shares stay", 5, x.settled(0, 0, 0));
    }
}
