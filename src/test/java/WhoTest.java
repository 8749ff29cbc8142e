/** Promises 37 to 39: which SUPPLIER it was, and where to ask. */
public final class WhoTest {
    // In slot 0 the suppliers have 4, 4, 2, in slot 1 6, 3, 3, in slot 2 1, 1, 1.
    private static final String GRID = "slots 3 ; feeder 10 12 3 ; class k loss 0 profile 0 ; "
            + "supplier s ; supplier t ; supplier u ; meter m interval class k with s ; meter n interval class k with t ; "
            + "meter o interval class k with u ;";

    public static void main(String[] args) {
        see();
        seeIsLimited();
        whoByMore();
        whoAsAllIsNow();
        ask();
        askOfAFew();
        Check.end("WhoTest");
    }

    private static FeederShares read() {
        FeederShares x = Check.told(GRID);
        int[][] said = {{4, 6, 1}, {4, 3, 1}, {2, 3, 1}};
        for (int meter = 0; meter < 3; meter++) {
            for (int slot = 0; slot < 3; slot++) {
                x.read(meter, slot, said[meter][slot]);
                Check.due("read", said[meter][slot], x.says(meter, slot));
            }
        }
        Check.due("s", 6, x.share(0, 1));
        Check.due("u", 2, x.share(2, 0));
        return x;
    }

    private static void see() {
        FeederShares x = read();
        Check.due("all", 7, x.who());
        Check.due("seen", true, x.see(0, 9999, true));
        Check.due("seen", true, x.see(2, -9999, false));
        Check.due("too much", false, x.see(0, 10000, true));
        Check.due("too little", false, x.see(0, -10000, true));
        Check.due("no slot", false, x.see(3, 0, true));
        Check.due("no slot", false, x.see(-1, 0, true));
        Check.due("no slot", false, x.see(Integer.MAX_VALUE, 0, false));
        Check.due("seen", 2, x.count(8));
        Check.due("it can't be undone", 8, x.count(9));
    }

    private static void seeIsLimited() {
        FeederShares x = read();
        for (int i = 0; i < 8; i++) {
            Check.due("seen", true, x.see(0, i - 8, true));
        }
        Check.due("a ninth", false, x.see(0, 0, true));
        Check.due("seen", 8, x.count(8));
        Check.due("all eight are so", 7, x.who());
    }

    private static void whoByMore() {
        FeederShares x = read();
        x.mark(0, false);
        x.see(0, 4, true);
        Check.due("so much or more", 3, x.who());
        x.see(1, 4, true);
        Check.due("and in slot 1", 1, x.who());
        x.see(1, 7, true);
        Check.due("none", 0, x.who());
        x.mark(0, true);
        x.see(0, 4, false);
        Check.due("less", 4, x.who());
        x.mark(0, true);
        x.see(1, 4, false);
        Check.due("less", 6, x.who());
        x.see(0, 3, true);
        Check.due("less in one, more in the other", 2, x.who());
        x.mark(0, true);
        x.see(2, 1, true);
        Check.due("all", 7, x.who());
        x.see(2, 1, false);
        Check.due("none has both so much or more and less", 0, x.who());
        x.mark(0, true);
        x.see(2, 2, false);
        Check.due("all", 7, x.who());
    }

    private static void whoAsAllIsNow() {
        FeederShares x = read();
        x.see(0, 4, true);
        Check.due("s and t", 3, x.who());
        x.move(1, 2, 0);
        Check.due("s and u", 5, x.who());
        x.undo();
        Check.due("s and t", 3, x.who());
        Check.due("no books", 0, x.count(6));
    }

    private static void ask() {
        FeederShares x = read();
        Check.due("of equal ones the first", 0, x.ask());
        x.read(0, 0, 2);
        x.read(1, 0, 2);
        x.total(0, 6);
        Check.due("slot 1 parts one from two", 1, x.ask());
        x.total(2, 6);
        x.read(1, 2, 2);
        x.read(2, 2, 3);
        Check.due("slot 2 parts all", 2, x.ask());
        FeederShares y = Check.told(GRID);
        Check.due("all have 0", -1, y.ask());
        Check.due("no suppliers", -1, Check.told("slots 2 ;").ask());
    }

    private static void askOfAFew() {
        FeederShares x = read();
        x.see(0, 4, true);
        Check.due("s and t are alike in slot 0", 1, x.ask());
        x.see(1, 4, true);
        Check.due("s alone", -1, x.ask());
        x.see(1, 4, false);
        Check.due("none", -1, x.ask());
        FeederShares y = read();
        y.see(1, 4, false);
        Check.due("t and u", 0, y.ask());
        Check.due("seen", 1, y.count(8));
    }
}
