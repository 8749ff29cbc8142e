/** Promises 27 to 32: RUNS, their DIFFERENCES, DRIFT, and the ACCOUNTS. */
public final class RunsTest {
    private static final String TWO = "slots 2 ; feeder 10 20 ; class k loss 0 profile 0 ; class l loss 0 profile 0 ; "
            + "supplier s ; supplier t ; supplier u ; meter m interval class k with s ; meter n interval class k with t ;";

    public static void main(String[] args) {
        settledAndDifference();
        drift();
        accountsInTheirOrder();
        accountsOfTheLastRun();
        accountsOfNothing();
        owes();
        others();
        Check.end("RunsTest");
    }

    private static FeederShares read() {
        FeederShares x = Check.told(TWO);
        x.read(0, 0, 4);
        x.read(1, 0, 4);
        return x;
    }

    private static void settledAndDifference() {
        FeederShares x = read();
        x.run();
        x.total(0, 20);
        x.move(1, 0, 1);
        Check.due("laid down", 5, x.settled(0, 0, 0));
        Check.due("laid down", 10, x.settled(0, 1, 1));
        x.run();
        Check.due("the first run stays", 5, x.settled(0, 0, 0));
        Check.due("the second", 10, x.settled(1, 0, 0));
        Check.due("the second", 20, x.settled(1, 0, 1));
        Check.due("the second", 0, x.settled(1, 1, 1));
        Check.due("of the first that", 5, x.difference(0, 0, 0));
        Check.due("more", 5, x.difference(1, 0, 0));
        Check.due("more", 10, x.difference(1, 0, 1));
        Check.due("less", -10, x.difference(1, 1, 1));
        Check.due("none", 0, x.difference(1, 2, 1));
        x.undo();
        Check.refused("undone", () -> x.settled(1, 0, 0));
        Check.refused("undone", () -> x.difference(1, 0, 0));
    }

    private static void drift() {
        FeederShares x = read();
        Check.due("no run", 0, x.drift(0));
        x.run();
        Check.due("nothing is new", 0, x.drift(0));
        x.move(1, 0, 1);
        Check.due("more", 10, x.drift(0));
        Check.due("less", -10, x.drift(1));
        Check.due("no more, no less", 0, x.drift(2));
        x.run();
        Check.due("by the last run", 0, x.drift(0));
        x.undo();
        Check.due("by the first one again", 10, x.drift(0));
    }

    private static void accountsInTheirOrder() {
        FeederShares x = Check.told("slots 3 ; feeder 9 9 9 ; class k loss 0 profile 0 ; class l loss 0 profile 0 ; "
                + "supplier s ; supplier t ; supplier u ; meter m interval class l with u ; meter n interval class k with t ; "
                + "meter o interval class l with s ; meter p interval class l with u ;");
        x.move(0, 1, 1);
        x.move(0, 0, 2);
        Check.due("no run", 0, x.accounts());
        Check.refused("no run", () -> x.account(0, 0));
        x.run();
        // m: (u, l), (t, l), (s, l); n: (t, k); o and p: none that is new
        int[][] due = {{2, 1}, {1, 1}, {0, 1}, {1, 0}};
        Check.due("each once", 4, x.accounts());
        for (int i = 0; i < 4; i++) {
            Check.due("supplier", due[i][0], x.account(i, 0));
            Check.due("class", due[i][1], x.account(i, 1));
            Check.due("even 0", 0, x.account(i, 2));
        }
        x.read(0, 0, 2);
        x.run();
        Check.due("9 in slot 0", 9, x.account(0, 2));
        Check.due("9 in slot 1", 9, x.account(1, 2));
        Check.due("9 in slot 2", 9, x.account(2, 2));
        Check.due("nothing", 0, x.account(3, 2));
        x.read(3, 1, 1);
        x.run();
        // slot 1: m has 6, p has 3; slot 2: m has 6, p has 3
        Check.due("m in slot 0, p in slots 1 and 2", 9 + 3 + 3, x.account(0, 2));
        Check.due("m in slot 1", 6, x.account(1, 2));
        Check.due("m in slot 2", 6, x.account(2, 2));
    }

    private static void accountsOfTheLastRun() {
        FeederShares x = read();
        x.run();
        Check.due("two", 2, x.accounts());
        Check.due("s", 15, x.account(0, 2));
        x.move(0, 2, 0);
        x.move(1, 2, 0);
        Check.due("laid down", 2, x.accounts());
        x.run();
        Check.due("one", 1, x.accounts());
        Check.due("u", 2, x.account(0, 0));
        Check.due("all", 30, x.account(0, 2));
        x.undo();
        Check.due("two again", 2, x.accounts());
        Check.due("s again", 0, x.account(0, 0));
        Check.due("s again", 15, x.account(0, 2));
        x.undo();
        x.undo();
        x.read(0, 0, 8);
        x.move(1, 0, 0);
        x.undo();
        x.undo();
        x.undo();
        Check.due("none again", 0, x.accounts());
        x.move(0, 1, 0);
        x.move(1, 1, 0);
        x.run();
        Check.due("one, of a new run", 1, x.accounts());
        Check.due("t", 1, x.account(0, 0));
        Check.due("all", 30, x.account(0, 2));
        Check.due("no more", 0, x.owes(0, 0));
    }

    private static void accountsOfNothing() {
        FeederShares x = new FeederShares();
        x.run();
        Check.due("no meters", 0, x.accounts());
        FeederShares y = Check.told("class k loss 0 profile 0 ; supplier s ; meter m flat class k with s ;");
        y.run();
        Check.due("no slots", 0, y.accounts());
        Check.due("no account", 0, y.owes(0, 0));
    }

    private static void owes() {
        FeederShares x = read();
        Check.due("no run", 0, x.owes(0, 0));
        x.move(1, 0, 1);
        x.run();
        Check.due("s", 25, x.owes(0, 0));
        Check.due("t", 5, x.owes(1, 0));
        Check.due("no such account", 0, x.owes(2, 0));
        Check.due("no such account", 0, x.owes(0, 1));
        x.read(0, 0, 9);
        Check.due("laid down", 25, x.owes(0, 0));
    }

    private static void others() {
        FeederShares x = read();
        Check.refused("no run", () -> x.settled(0, 0, 0));
        Check.refused("no run", () -> x.difference(0, 0, 0));
        x.run();
        Check.due("a run", 5, x.settled(0, 0, 0));
        int[][] wrong = {{1, 0, 0}, {-1, 0, 0}, {0, 3, 0}, {0, -1, 0}, {0, 0, 2}, {0, 0, -1}, {Integer.MAX_VALUE, 0, 0},
            {Integer.MIN_VALUE, 0, 0}, {0, Integer.MAX_VALUE, 0}, {0, 0, Integer.MIN_VALUE}};
        for (int[] w : wrong) {
            Check.refused("settled", () -> x.settled(w[0], w[1], w[2]));
            Check.refused("difference", () -> x.difference(w[0], w[1], w[2]));
        }
        for (int other : new int[] {-1, 3, Integer.MAX_VALUE, Integer.MIN_VALUE}) {
            Check.refused("drift", () -> x.drift(other));
            Check.refused("owes", () -> x.owes(other, 0));
            Check.refused("owes", () -> x.owes(0, other));
            Check.refused("account", () -> x.account(other, 0));
            Check.refused("account", () -> x.account(0, other));
        }
        Check.refused("account", () -> x.account(2, 0));
        Check.refused("owes", () -> x.owes(0, 2));
    }
}
