/** Promises 33 to 36 and 40: what is tried in BOOKS, and that all is as it was behind them. */
public final class TriedTest {
    private static final String GRID = "slots 4 ; feeder 100 50 60 0 ; class home loss 100 profile 1 2 1 ; "
            + "class shop loss 0 profile 0 ; supplier x ; supplier y ; meter a interval class home with x ; "
            + "meter b register class home with y ; meter c flat class shop with x ; meter d export class shop with y ;";
    private static final String TWO = "slots 2 ; feeder 10 20 ; class k loss 0 profile 0 ; "
            + "supplier s ; supplier t ; meter m interval class k with s ; meter n interval class k with t ;";

    public static void main(String[] args) {
        swing();
        swingAsByHand();
        swingOthers();
        gains();
        bears();
        heaviest();
        days();
        daysOfNothing();
        daysOthers();
        allIsAsAhead();
        Check.end("TriedTest");
    }

    private static void swing() {
        FeederShares x = Check.told(TWO);
        x.read(0, 0, 4);
        x.read(1, 0, 4);
        // were m 12 in slot 1: 12 and 4, of 20: 15 and 5 instead of 10 and 10
        Check.due("more for s", 5, x.swing(0, 1, 12, 0));
        Check.due("less for t", -5, x.swing(0, 1, 12, 1));
        Check.due("as it is", 0, x.swing(0, 0, 4, 0));
        Check.due("in place of what it says", -5 - 10, x.swing(0, 0, 0, 0));
        Check.due("books", 4, x.count(6));
        FeederShares y = Check.told(GRID);
        y.read(1, 0, 0);
        Check.due("a register's last place", 210, y.swing(1, 4, 80, 1));
    }

    private static void swingAsByHand() {
        FeederShares x = Check.told(GRID);
        x.read(0, 0, 20);
        x.read(1, 0, 100);
        x.read(1, 4, 180);
        x.move(1, 0, 2);
        for (int meter = 0; meter < 4; meter++) {
            for (int place = 0; place < 4; place++) {
                for (int supplier = 0; supplier < 2; supplier++) {
                    int ahead = x.sum(supplier);
                    int swing = x.swing(meter, place, 150, supplier);
                    Check.due("all is as ahead", ahead, x.sum(supplier));
                    x.read(meter, place, 150);
                    Check.due("as by hand", x.sum(supplier) - ahead, swing);
                    x.undo();
                }
            }
        }
        Check.due("books", 32, x.count(6));
    }

    private static void swingOthers() {
        FeederShares x = Check.told(GRID);
        int[][] wrong = {{-1, 0, 0, 0}, {4, 0, 0, 0}, {0, -1, 0, 0}, {0, 4, 0, 0}, {1, 5, 0, 0}, {0, 0, 0, -1}, {0, 0, 0, 2},
            {Integer.MAX_VALUE, 0, 0, 0}, {0, Integer.MIN_VALUE, 0, 0}, {0, 0, 0, Integer.MIN_VALUE}};
        for (int[] w : wrong) {
            Check.refused("swing", () -> x.swing(w[0], w[1], w[2], w[3]));
        }
        Check.due("no book", 0, x.count(6));
        int[][] said = {{0, 0, -1, 0}, {0, 0, 1000, 0}, {1, 4, 10000, 0}, {1, 0, Integer.MIN_VALUE, 0}};
        for (int[] w : said) {
            Check.refused("swing", () -> x.swing(w[0], w[1], w[2], w[3]));
        }
        // Its meter, place and supplier are as they may be: its BOOK is opened, and shut as it ends.
        Check.due("a book for each", 4, x.count(6));
        x.swing(1, 4, 9999, 0);
        x.swing(0, 3, 999, 0);
        Check.due("a book for each", 6, x.count(6));
    }

    private static void gains() {
        FeederShares x = Check.told(TWO);
        x.read(0, 0, 4);
        x.read(1, 0, 4);
        x.move(1, 0, 1);
        // s has m in both slots, n in slot 1: 5 + 10 + 10
        Check.due("n in slot 0, too", 5, x.gains(1, 0));
        Check.due("n in slot 1, too", 10, x.gains(1, 1));
        Check.due("it is so", 0, x.gains(0, 0));
        Check.due("m in both", 15, x.gains(0, 1));
        Check.due("all is as ahead", 0, x.with(1, 1));
        Check.due("all is as ahead", 1, x.with(1, 0));
        Check.due("books", 4, x.count(6));
        for (int other : new int[] {-1, 2, Integer.MAX_VALUE, Integer.MIN_VALUE}) {
            Check.refused("gains", () -> x.gains(other, 0));
            Check.refused("gains", () -> x.gains(0, other));
        }
        Check.due("no book", 4, x.count(6));
    }

    private static void bears() {
        FeederShares x = Check.told(TWO);
        Check.due("nothing is read", 0, x.bears(0));
        x.read(0, 0, 4);
        Check.due("all that is shared", 30, x.bears(0));
        Check.due("nothing", 0, x.bears(1));
        x.read(1, 1, 12);
        // slot 1: 4 and 12 of 20: 5 and 15; without m: 0 and 20, and 10 less in slot 0
        Check.due("10 and 5 less for s, 5 more for t", 15 + 5, x.bears(0));
        Check.due("15 more for s, 15 less for t", 15 + 15, x.bears(1));
        Check.due("books", 5, x.count(6));
        Check.due("no meter", -1, x.bears(2));
        Check.due("no meter", -1, x.bears(-1));
        Check.due("no book", 5, x.count(6));
        Check.due("all is as ahead", 4, x.says(0, 0));
        FeederShares y = Check.told("slots 2 ; feeder 0 20 ; class k loss 0 profile 0 ; class l loss 0 profile 0 ; "
                + "supplier s ; meter m interval class k with s ; meter n export class l with s ;");
        y.read(1, 0, 3);
        Check.due("together, then without the sign", 3 + 3, y.bears(1));
        y.read(0, 1, 1);
        Check.due("slot 1 alone", 20 + 3, y.bears(0));
    }

    private static void heaviest() {
        FeederShares x = Check.told(TWO);
        Check.due("of equal ones the first", 0, x.heaviest());
        Check.due("a book for each meter", 2, x.count(6));
        x.read(1, 0, 4);
        Check.due("the one", 1, x.heaviest());
        x.read(0, 1, 12);
        x.read(1, 1, 12);
        Check.due("the one that is more", 1, x.heaviest());
        x.read(0, 0, 4);
        Check.due("of equal ones the first", 0, x.heaviest());
        Check.due("a book for each meter", 8, x.count(6));
        FeederShares y = Check.told("class k loss 0 profile 0 ; supplier s ; meter m flat class k with s ;");
        Check.due("no slots", 0, y.heaviest());
        Check.due("no meters", -1, Check.told("slots 2 ; supplier s ;").heaviest());
    }

    private static void days() {
        for (int seed : new int[] {0, 1, 7, 4321, 9999}) {
            for (int many : new int[] {1, 2, 5, 60}) {
                FeederShares x = Check.told(GRID);
                FeederShares y = Check.told(GRID);
                x.read(1, 4, 50);
                y.read(1, 4, 50);
                long g = seed;
                for (int day = 0; day < many; day++) {
                    int[] drawn = new int[3];
                    int[] below = {4, 4, 200};
                    for (int i = 0; i < 3; i++) {
                        g = Math.floorMod(g * 1103515245L + 12345L, 2147483648L);
                        drawn[i] = (int) (g / 65536L % below[i]);
                    }
                    y.read(drawn[0], drawn[1], drawn[2]);
                }
                int open = 0;
                for (int slot = 0; slot < 4; slot++) {
                    open += y.proof(slot) != 0 ? 1 : 0;
                }
                Check.due("days, shares " + seed, y.sum(0) + y.sum(1), x.days(seed, many, 0));
                Check.due("days, proofs " + seed, open, x.days(seed, many, 1));
                Check.due("days, worst " + seed, y.worst(), x.days(seed, many, 2));
                Check.due("books", 3, x.count(6));
                Check.due("all is as ahead", 1, x.count(4));
            }
        }
    }

    private static void daysOfNothing() {
        FeederShares x = new FeederShares();
        Check.due("no shares", 0, x.days(5, 5, 0));
        Check.due("no proofs", 0, x.days(5, 5, 1));
        Check.due("no slots", -1, x.days(5, 5, 2));
        Check.due("books", 3, x.count(6));
        FeederShares y = Check.told("slots 2 ; feeder 0 3 ;");
        Check.due("a slot is left", 1, y.days(5, 5, 1));
        Check.due("the worst", 1, y.days(5, 5, 2));
        FeederShares z = Check.told("class k loss 0 profile 0 ; supplier s ; meter r register class k with s ;");
        Check.due("no slots", 0, z.days(5, 5, 0));
        Check.due("no slots", -1, z.days(5, 5, 2));
        Check.due("nothing is read", 0, z.count(4));
    }

    private static void daysOthers() {
        FeederShares x = Check.told(GRID);
        int[][] wrong = {{-1, 1, 0}, {10000, 1, 0}, {0, 0, 0}, {0, 61, 0}, {0, 1, -1}, {0, 1, 3},
            {Integer.MIN_VALUE, 1, 0}, {0, Integer.MAX_VALUE, 0}, {0, 1, Integer.MIN_VALUE}};
        for (int[] w : wrong) {
            Check.refused("days", () -> x.days(w[0], w[1], w[2]));
        }
        Check.due("no book", 0, x.count(6));
    }

    private static void allIsAsAhead() {
        FeederShares x = Check.told(GRID);
        x.read(0, 0, 20);
        x.move(0, 1, 2);
        x.run();
        x.see(0, 5, true);
        x.swing(0, 0, 999, 0);
        x.gains(0, 0);
        x.bears(0);
        x.heaviest();
        x.days(1, 60, 0);
        int[] due = {4, 2, 2, 4, 1, 1, 8, 0, 1, 3, 0};
        for (int what = 0; what < due.length; what++) {
            Check.due("count " + what, due[what], x.count(what));
        }
        Check.due("says", 20, x.says(0, 0));
        Check.due("with", 1, x.with(0, 3));
        Check.due("no drift", 0, x.drift(0));
    }
}
