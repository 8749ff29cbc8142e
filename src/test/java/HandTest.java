/** Promises 5 to 13: what there is, what is done by hand and undone, and a judged WORK. */
public final class HandTest {
    private static final String GRID = "slots 4 ; feeder 100 50 60 0 ; class home loss 100 profile 1 2 1 ; "
            + "class shop loss 0 profile 0 ; supplier x ; supplier y ; meter a interval class home with x ; "
            + "meter b register class home with y ; meter c flat class shop with x ; meter d export class shop with y ;";

    public static void main(String[] args) {
        meter();
        with();
        readAndSays();
        move();
        total();
        run();
        undo();
        undoTheLastEight();
        undoBringsBackAll();
        judged();
        judgedIsItsOwn();
        judgedRuns();
        Check.end("HandTest");
    }

    private static void meter() {
        FeederShares x = Check.told(GRID);
        for (int meter = 0; meter < 4; meter++) {
            Check.due("kind", meter, x.meter(meter, 0));
            Check.due("class", meter / 2, x.meter(meter, 1));
            Check.due("readings", 0, x.meter(meter, 2));
        }
        x.read(1, 0, 5);
        x.read(1, 4, 6);
        x.read(1, 4, 7);
        x.read(2, 1, 7);
        Check.due("readings of b", 2, x.meter(1, 2));
        Check.due("readings of c", 1, x.meter(2, 2));
        Check.due("readings of a", 0, x.meter(0, 2));
        for (int other : new int[] {-1, 4, 6, Integer.MIN_VALUE, Integer.MAX_VALUE}) {
            Check.due("no such meter", -1, x.meter(other, 0));
            Check.due("no such what", -1, x.meter(0, other == 4 ? 3 : other));
        }
    }

    private static void with() {
        FeederShares x = Check.told(GRID);
        for (int slot = 0; slot < 4; slot++) {
            Check.due("a is with x", 0, x.with(0, slot));
            Check.due("b is with y", 1, x.with(1, slot));
        }
        for (int other : new int[] {-1, 4, Integer.MIN_VALUE, Integer.MAX_VALUE}) {
            Check.due("no such meter", -1, x.with(other, 0));
            Check.due("no such slot", -1, x.with(0, other));
        }
    }

    private static void readAndSays() {
        FeederShares x = Check.told(GRID);
        Check.due("first", -1, x.read(0, 3, 999));
        Check.due("again", 999, x.read(0, 3, 0));
        Check.due("says", 0, x.says(0, 3));
        Check.due("not read", -1, x.says(0, 2));
        Check.due("too much", -2, x.read(0, 0, 1000));
        Check.due("too little", -2, x.read(0, 0, -1));
        Check.due("no place", -2, x.read(0, 4, 0));
        Check.due("no place", -2, x.read(0, -1, 0));
        Check.due("no meter", -2, x.read(4, 0, 0));
        Check.due("no meter", -2, x.read(-1, 0, 0));
        Check.due("a register's last place", -1, x.read(1, 4, 9999));
        Check.due("a register's too much", -2, x.read(1, 4, 10000));
        Check.due("a register's no place", -2, x.read(1, 5, 0));
        Check.due("flat", -2, x.read(2, 4, 0));
        Check.due("export", -2, x.read(3, 0, 1000));
        Check.due("says", 9999, x.says(1, 4));
        Check.due("says nowhere", -1, x.says(1, 5));
        Check.due("says nowhere", -1, x.says(0, 4));
        Check.due("says nowhere", -1, x.says(0, -1));
        Check.due("says no meter", -1, x.says(4, 0));
        Check.due("readings", 2, x.count(4));
        Check.due("what was refused can't be undone", 3, x.count(9));
        FeederShares y = Check.told("class k loss 0 profile 0 ; supplier s ; meter r register class k with s ; meter f flat class k with s ;");
        Check.due("a register's only place", -1, y.read(0, 0, 3));
        Check.due("no place", -2, y.read(0, 1, 3));
        Check.due("no place", -2, y.read(1, 0, 3));
        Check.due("says", 3, y.says(0, 0));
        Check.due("stands", 3, y.stands(0, 0));
    }

    private static void move() {
        FeederShares x = Check.told(GRID);
        Check.due("from slot 2", 0, x.move(0, 1, 2));
        Check.due("ahead", 0, x.with(0, 1));
        Check.due("from there", 1, x.with(0, 2));
        Check.due("behind", 1, x.with(0, 3));
        Check.due("others stay", 0, x.with(2, 3));
        Check.due("back in the last slot", 1, x.move(0, 0, 3));
        Check.due("the last slot", 0, x.with(0, 3));
        Check.due("from the first slot", 0, x.move(0, 1, 0));
        Check.due("all slots behind, too", 1, x.with(0, 3));
        Check.due("no meter", -1, x.move(4, 0, 0));
        Check.due("no meter", -1, x.move(-1, 0, 0));
        Check.due("no supplier", -1, x.move(0, 2, 0));
        Check.due("no supplier", -1, x.move(0, -1, 0));
        Check.due("no slot", -1, x.move(0, 0, 4));
        Check.due("no slot", -1, x.move(0, 0, -1));
        Check.due("three can be undone", 3, x.count(9));
    }

    private static void total() {
        FeederShares x = Check.told(GRID);
        Check.due("was", 100, x.total(0, 9999));
        Check.due("was", 9999, x.total(0, 0));
        Check.due("was", 0, x.total(0, 1));
        Check.due("is", 1, x.residual(0));
        Check.due("others stay", 50, x.residual(1));
        Check.due("too much", -1, x.total(0, 10000));
        Check.due("too little", -1, x.total(0, -1));
        Check.due("no slot", -1, x.total(4, 0));
        Check.due("no slot", -1, x.total(-1, 0));
        Check.due("three can be undone", 3, x.count(9));
    }

    private static void run() {
        FeederShares x = Check.told(GRID);
        for (int run = 0; run < 4; run++) {
            Check.due("run", run, x.run());
        }
        Check.due("a fifth", -1, x.run());
        Check.due("runs", 4, x.count(5));
        Check.due("four can be undone", 4, x.count(9));
        x.undo();
        Check.due("again", 3, x.run());
    }

    private static void undo() {
        FeederShares x = Check.told(GRID);
        x.read(0, 0, 1);
        x.read(0, 0, 2);
        x.move(0, 1, 1);
        x.move(0, 0, 3);
        x.total(0, 5);
        x.run();
        x.read(1, 0, 3);
        Check.due("undo", true, x.undo());
        Check.due("nothing is read", -1, x.says(1, 0));
        Check.due("the run stands", 1, x.count(5));
        Check.due("undo", true, x.undo());
        Check.due("no run", 0, x.count(5));
        Check.refused("no run", () -> x.settled(0, 0, 0));
        Check.due("the total stands", 5, x.total(0, 5));
        x.undo();
        Check.due("undo", true, x.undo());
        Check.due("the total as told", 100, x.total(0, 100));
        x.undo();
        Check.due("undo", true, x.undo());
        Check.due("moved back", 1, x.with(0, 3));
        Check.due("undo", true, x.undo());
        Check.due("moved back", 0, x.with(0, 1));
        Check.due("moved back", 0, x.with(0, 3));
        Check.due("it says still", 2, x.says(0, 0));
        Check.due("undo", true, x.undo());
        Check.due("it says again", 1, x.says(0, 0));
        Check.due("undo", true, x.undo());
        Check.due("it says nothing", -1, x.says(0, 0));
        Check.due("no more", false, x.undo());
        Check.due("no more", 0, x.count(9));
    }

    private static void undoTheLastEight() {
        FeederShares x = Check.told(GRID);
        for (int i = 0; i < 12; i++) {
            x.read(0, 0, 10 + i);
            Check.due("can be undone", Math.min(8, i + 1), x.count(9));
        }
        for (int i = 0; i < 8; i++) {
            Check.due("says", 21 - i, x.says(0, 0));
            Check.due("undo", true, x.undo());
        }
        Check.due("no more", false, x.undo());
        Check.due("says", 13, x.says(0, 0));
        x.see(0, 0, true);
        x.read(0, 0, 1);
        x.undo();
        Check.due("what is seen is not undone", 1, x.count(8));
        x.move(0, 0, 0);
        Check.due("a move to where it is can be undone", 1, x.count(9));
    }

    private static void undoBringsBackAll() {
        FeederShares x = Check.told(GRID);
        x.read(0, 0, 20);
        x.run();
        int owes = x.owes(0, 0);
        int sum = x.sum(0);
        x.read(0, 0, 40);
        x.move(0, 1, 0);
        x.run();
        x.undo();
        Check.due("the accounts of the run ahead", owes, x.owes(0, 0));
        x.undo();
        x.undo();
        Check.due("the sum ahead", sum, x.sum(0));
        Check.due("no drift", 0, x.drift(0));
    }

    private static void judged() {
        FeederShares x = Check.told("slots 2 ; feeder 10 7 ; class k loss 0 profile 0 ; supplier s ; meter m interval class k with s ;");
        Check.due("no line", -1, x.judged(0));
        Check.due("no runs", 0, x.judged(1));
        Check.due("nothing is smeared", 0, x.judged(2));
        Check.work(x, "read m 1 3 ;");
        Check.due("no line can't be", -1, x.judged(0));
        Check.due("slot 1 alone is smeared", 7, x.judged(2));
        Check.work(x, "read m 0 3 ; total 1 20 ; run ; move m s 1 ;");
        Check.due("each line can be", -1, x.judged(0));
        Check.due("a run", 1, x.judged(1));
        Check.due("both slots", 30, x.judged(2));
        Check.refused("no such what", () -> x.judged(3));
        Check.refused("no such what", () -> x.judged(-1));
        Check.due("no book", 0, x.count(6));
        FeederShares y = Check.told("slots 1 ; feeder 9 ; class k loss 0 profile 0 ; supplier s ; meter m flat class k with s ; smears many ;");
        Check.due("with nothing read, too", 9, y.judged(2));
    }

    private static void judgedIsItsOwn() {
        FeederShares x = Check.told("slots 2 ; feeder 10 7 ; class k loss 0 profile 0 ; supplier s ; meter m interval class k with s ;");
        x.read(0, 0, 5);
        x.total(0, 99);
        x.run();
        x.run();
        x.run();
        x.run();
        Check.work(x, "run ; run ;");
        Check.due("no line can't be", -1, x.judged(0));
        Check.due("two runs", 2, x.judged(1));
        Check.due("from the grid as told", 0, x.judged(2));
        Check.work(x, "read m 1 1 ;");
        Check.due("from the grid as told", 7, x.judged(2));
        Check.due("all stays: read", 5, x.says(0, 0));
        Check.due("all stays: not read", -1, x.says(0, 1));
        Check.due("all stays: runs", 4, x.count(5));
        Check.due("all stays: total", 99, x.share(0, 0));
        Check.due("all stays: laid down", 99, x.settled(3, 0, 0));
    }

    private static void judgedRuns() {
        FeederShares x = Check.told(GRID);
        Check.work(x, "run ; run ; total 0 3 ; run ; run ;");
        Check.due("four can be", -1, x.judged(0));
        Check.due("four", 4, x.judged(1));
        Check.work(x, "run ; run ; total 0 3 ; run ; run ; read a 0 1 ; run ; run ;");
        Check.due("the fifth can't be", 6, x.judged(0));
        Check.due("four", 4, x.judged(1));
    }
}
