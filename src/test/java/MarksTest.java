/** Promises 41 and 42: MARKS and counts. */
public final class MarksTest {
    private static final String GRID = "slots 4 ; feeder 100 50 60 0 ; class home loss 100 profile 1 2 1 ; "
            + "supplier x ; supplier y ; meter a interval class home with x ; meter b register class home with y ; "
            + "meter c flat class home with x ;";

    public static void main(String[] args) {
        markHoldsAll();
        marksHoldRuns();
        marksHoldWhatIsSeen();
        marksAreTwo();
        markIsKept();
        others();
        counts();
        Check.end("MarksTest");
    }

    private static void markHoldsAll() {
        FeederShares x = Check.told(GRID);
        x.read(0, 0, 20);
        x.move(0, 1, 2);
        x.total(1, 7);
        x.run();
        x.see(0, 5, true);
        Check.work(x, "run ;");
        x.bears(0);
        int owes = x.owes(0, 0);
        int sum = x.sum(1);
        int settled = x.settled(0, 0, 0);
        Check.due("laid", true, x.mark(1, false));
        Check.due("it can be undone as ahead", 4, x.count(9));
        x.read(0, 0, 99);
        x.read(1, 1, 99);
        x.move(0, 0, 0);
        x.total(1, 99);
        x.undo();
        x.undo();
        x.undo();
        x.undo();
        x.undo();
        x.read(0, 0, 55);
        x.run();
        x.run();
        x.see(0, 0, false);
        Check.work(x, "run ; run ;");
        x.bears(0);
        Check.due("gone back", true, x.mark(1, true));
        Check.due("read", 20, x.says(0, 0));
        Check.due("not read", -1, x.says(1, 1));
        Check.due("with", 0, x.with(0, 1));
        Check.due("with", 1, x.with(0, 2));
        Check.due("total", 7, x.total(1, 7));
        x.undo();
        Check.due("runs", 1, x.count(5));
        Check.due("owes", owes, x.owes(0, 0));
        Check.due("settled", settled, x.settled(0, 0, 0));
        Check.due("sum", sum, x.sum(1));
        Check.due("no drift", 0, x.drift(0));
        Check.due("seen", 1, x.count(8));
        Check.due("books are not held", 2, x.count(6));
        Check.due("the work is not held", 2, x.count(7));
        Check.due("nothing can be undone", 0, x.count(9));
        Check.due("nothing can be undone", false, x.undo());
    }

    private static void marksHoldRuns() {
        FeederShares x = Check.told(GRID);
        x.mark(0, false);
        x.read(0, 0, 20);
        x.move(0, 1, 2);
        x.run();
        x.mark(1, false);
        Check.due("back to no run", true, x.mark(0, true));
        Check.due("no run", 0, x.count(5));
        Check.due("no accounts", 0, x.accounts());
        x.move(2, 1, 0);
        x.move(0, 1, 0);
        x.read(2, 0, 20);
        x.run();
        Check.due("another run", 100, x.settled(0, 1, 0));
        Check.due("another order", 1, x.account(0, 0));
        Check.due("one account", 1, x.accounts());
        Check.due("back to the run", true, x.mark(1, true));
        Check.due("a has all of slot 0", 100, x.settled(0, 0, 0));
        Check.due("and nothing then", 0, x.settled(0, 1, 0));
        Check.due("the accounts", 2, x.accounts());
        Check.due("the first one", 0, x.account(0, 0));
        Check.due("slots 0 and 1", 150, x.account(0, 2));
        Check.due("slots 2 and 3", 60, x.owes(1, 0));
    }

    private static void marksHoldWhatIsSeen() {
        FeederShares x = Check.told(GRID);
        x.read(0, 0, 20);
        x.mark(0, false);
        x.see(0, 100, true);
        Check.due("x alone", 1, x.who());
        x.mark(1, false);
        x.mark(0, true);
        Check.due("nothing is seen", 0, x.count(8));
        Check.due("both", 3, x.who());
        x.see(1, -5, false);
        Check.due("neither", 0, x.who());
        x.mark(1, true);
        Check.due("x alone again", 1, x.who());
    }

    private static void marksAreTwo() {
        FeederShares x = Check.told(GRID);
        x.read(0, 0, 1);
        x.mark(0, false);
        Check.due("nothing is on it", false, x.mark(1, true));
        Check.due("all stays then", 1, x.count(9));
        x.read(0, 0, 2);
        x.mark(1, false);
        x.read(0, 0, 3);
        Check.due("back", true, x.mark(0, true));
        Check.due("says", 1, x.says(0, 0));
        Check.due("back", true, x.mark(1, true));
        Check.due("says", 2, x.says(0, 0));
    }

    private static void markIsKept() {
        FeederShares x = Check.told(GRID);
        x.mark(0, false);
        x.read(0, 0, 3);
        x.mark(0, true);
        Check.due("says", -1, x.says(0, 0));
        x.read(0, 0, 4);
        Check.due("again", true, x.mark(0, true));
        Check.due("says", -1, x.says(0, 0));
        x.read(0, 0, 5);
        x.mark(0, false);
        x.read(0, 0, 6);
        x.mark(0, true);
        Check.due("laid again", 5, x.says(0, 0));
    }

    private static void others() {
        FeederShares x = new FeederShares();
        Check.due("nothing is on it", false, x.mark(0, true));
        Check.due("laid without a grid", true, x.mark(0, false));
        Check.due("back", true, x.mark(0, true));
        for (int other : new int[] {-1, 2, Integer.MAX_VALUE, Integer.MIN_VALUE}) {
            Check.due("none such", false, x.mark(other, false));
            Check.due("none such", false, x.mark(other, true));
        }
        Check.feed(x, "slots 3");
        x.grid();
        Check.due("a faulty grid leaves it", true, x.mark(0, true));
        Check.feed(x, GRID);
        x.grid();
        Check.due("a grid takes it away", false, x.mark(0, true));
    }

    private static void counts() {
        FeederShares x = Check.told(GRID);
        x.read(0, 0, 1);
        x.read(0, 0, 2);
        x.read(1, 4, 2);
        x.run();
        x.bears(0);
        x.see(0, 0, true);
        x.see(0, 0, true);
        Check.work(x, "run ; run ; run ; run ; run ;");
        x.feed(0x202020202020L, 0, 0);
        int[] due = {4, 1, 2, 3, 2, 1, 1, 5, 2, 4, 6};
        for (int what = 0; what < due.length; what++) {
            Check.due("count " + what, due[what], x.count(what));
        }
        for (int other : new int[] {-1, 11, Integer.MAX_VALUE, Integer.MIN_VALUE}) {
            Check.due("another what", -1, x.count(other));
        }
    }
}
