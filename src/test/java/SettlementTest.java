/** Promises 14 to 26: USE, GROSS, LOAD, RESIDUAL, SMEAR, NET, SHARE, and what goes with them. */
public final class SettlementTest {
    private static final String GRID = "slots 4 ; feeder 100 50 60 0 ; class home loss 100 profile 1 2 1 ; "
            + "class shop loss 0 profile 0 ; supplier x ; supplier y ; meter a interval class home with x ; "
            + "meter b register class home with y ; meter c flat class shop with x ; meter d export class shop with y ;";

    public static void main(String[] args) {
        useByReadings();
        useOfRegisters();
        useOfTurnedRegisters();
        useOfWeightlessProfiles();
        gross();
        load();
        residual();
        smearByClasses();
        smearLeftOver();
        smearByMeters();
        leftIsNotSmeared();
        net();
        shareAndSum();
        gaps();
        stands();
        proof();
        worst();
        lost();
        others();
        Check.end("SettlementTest");
    }

    private static void useByReadings() {
        FeederShares x = Check.told(GRID);
        for (int meter = 0; meter < 4; meter++) {
            Check.due("nothing is read", 0, x.use(meter, 3));
        }
        for (int meter : new int[] {0, 2, 3}) {
            int sign = meter == 3 ? -1 : 1;
            x.read(meter, 1, 7);
            x.read(meter, 3, 9);
            Check.due("none ahead", 0, x.use(meter, 0));
            Check.due("there", 7 * sign, x.use(meter, 1));
            Check.due("the last ahead", 7 * sign, x.use(meter, 2));
            Check.due("there", 9 * sign, x.use(meter, 3));
            x.read(meter, 2, 0);
            Check.due("0 is read, too", 0, x.use(meter, 2));
        }
    }

    private static void useOfRegisters() {
        FeederShares x = Check.told(GRID);
        x.read(1, 4, 110);
        Check.due("no place ahead", 0, x.use(1, 3));
        x.read(1, 1, 100);
        Check.due("no place ahead", 0, x.use(1, 0));
        // 10 by 2, 1, 1: up to 5, 7.5, 10
        Check.due("slot 1", 5, x.use(1, 1));
        Check.due("slot 2", 2, x.use(1, 2));
        Check.due("slot 3", 3, x.use(1, 3));
        x.read(1, 3, 104);
        // 4 by 2, 1: up to 2.66, 4; then 6 alone
        Check.due("slot 1", 2, x.use(1, 1));
        Check.due("slot 2", 2, x.use(1, 2));
        Check.due("slot 3", 6, x.use(1, 3));
        x.undo();
        x.undo();
        x.undo();
        x.read(1, 0, 3);
        x.read(1, 2, 3);
        Check.due("no advance", 0, x.use(1, 1));
        Check.due("no place behind", 0, x.use(1, 2));
    }

    private static void useOfTurnedRegisters() {
        FeederShares x = Check.told(GRID);
        x.read(1, 0, 9990);
        x.read(1, 1, 0);
        Check.due("turned", 10, x.use(1, 0));
        x.read(1, 1, 9989);
        Check.due("all but one", 9999, x.use(1, 0));
        x.read(1, 1, 9990);
        Check.due("nothing", 0, x.use(1, 0));
    }

    private static void useOfWeightlessProfiles() {
        FeederShares y = Check.told("slots 4 ; class j loss 0 profile 7 1 ; class k loss 0 profile 5 0 0 0 ; supplier s ; "
                + "meter m register class k with s ; meter n register class j with s ;");
        y.read(0, 1, 20);
        y.read(0, 3, 30);
        Check.due("each 1", 5, y.use(0, 1));
        Check.due("each 1", 5, y.use(0, 2));
        Check.due("no place behind", 0, y.use(0, 3));
        Check.due("no place ahead", 0, y.use(0, 0));
        Check.due("stands between", 25, y.stands(0, 2));
        y.read(1, 0, 9000);
        Check.due("no place behind", 0, y.use(1, 2));
        y.read(1, 2, 9080);
        Check.due("by its own class", 70, y.use(1, 0));
        Check.due("stands behind place 0", 9070, y.stands(1, 1));
        Check.due("stands behind the last", -1, y.stands(1, 3));
        FeederShares x = Check.told("slots 4 ; class k loss 0 profile 0 0 5 ; supplier s ; meter m register class k with s ;");
        x.read(0, 0, 0);
        x.read(0, 2, 5);
        x.read(0, 4, 11);
        Check.due("each 1", 2, x.use(0, 0));
        Check.due("each 1", 3, x.use(0, 1));
        Check.due("by the profile", 6, x.use(0, 2));
        Check.due("by the profile, again from its first", 0, x.use(0, 3));
    }

    private static void gross() {
        FeederShares x = Check.told("slots 1 ; class k loss 999 profile 0 ; class j loss 1 profile 0 ; supplier s ; "
                + "meter a interval class k with s ; meter b export class k with s ; meter c register class k with s ; meter d flat class j with s ;");
        x.read(0, 0, 1);
        x.read(1, 0, 1);
        x.read(2, 0, 1);
        x.read(2, 1, 0);
        x.read(3, 0, 999);
        Check.due("cut", 1, x.gross(0, 0));
        Check.due("cut towards 0", -1, x.gross(1, 0));
        Check.due("the most", 9999 * 1999 / 1000, x.gross(2, 0));
        Check.due("999 and 0.999", 999, x.gross(3, 0));
        x.read(0, 0, 2);
        Check.due("cut", 3, x.gross(0, 0));
    }

    private static void load() {
        FeederShares x = Check.told(GRID);
        x.read(0, 0, 20);
        x.read(2, 0, 4);
        x.read(3, 0, 5);
        Check.due("home", 22, x.load(0, 0));
        Check.due("shop", -1, x.load(1, 0));
    }

    private static void residual() {
        FeederShares x = Check.told(GRID);
        Check.due("all of it", 100, x.residual(0));
        x.read(0, 0, 20);
        x.read(3, 0, 5);
        Check.due("slot 0", 100 - 22 + 5, x.residual(0));
        Check.due("below 0", -22 + 5, x.residual(3));
    }

    private static void smearByClasses() {
        String grid = "slots 1 ; feeder 10 ; class e loss 0 profile 1 ; class p loss 0 profile 1 ; class q loss 0 profile 1 ; class r loss 0 profile 1 ; "
                + "supplier s ; meter a interval class p with s ; meter b interval class q with s ; meter c interval class r with s ; ";
        FeederShares x = Check.told(grid + "smears 1 ;");
        Check.due("a class without meters", 0, x.smear(0, 0));
        Check.due("the first one more", 4, x.smear(1, 0));
        Check.due("the second", 3, x.smear(2, 0));
        Check.due("the third", 3, x.smear(3, 0));
        x.total(0, 11);
        Check.due("the first one more", 4, x.smear(1, 0));
        Check.due("the second one more", 4, x.smear(2, 0));
        Check.due("the third", 3, x.smear(3, 0));
        x.read(0, 0, 100);
        Check.due("below 0", -30, x.smear(1, 0));
        Check.due("below 0", -30, x.smear(2, 0));
        Check.due("below 0", -29, x.smear(3, 0));
        FeederShares y = Check.told(grid);
        y.read(0, 0, 4);
        Check.due("load weighs without smears", 6, y.smear(1, 0));
        Check.due("no load", 0, y.smear(2, 0));
    }

    private static void smearLeftOver() {
        FeederShares x = Check.told("slots 1 ; feeder 1 ; class p loss 1 profile 1 ; class q loss 2 profile 1 ; class r loss 2 profile 1 ; "
                + "supplier s ; meter a interval class p with s ; meter b interval class q with s ; meter c interval class r with s ; smears loss ;");
        int[][] due = {{0, 1, 0}, {0, 1, 1}, {1, 1, 1}, {1, 2, 1}, {1, 2, 2}, {1, 3, 2}, {1, 3, 3}, {2, 3, 3}, {2, 4, 3}};
        for (int units = 1; units <= due.length; units++) {
            x.total(0, units);
            for (int kind = 0; kind < 3; kind++) {
                Check.due(units + " by 1, 2, 2", due[units - 1][kind], x.smear(kind, 0));
            }
        }
    }

    private static void smearByMeters() {
        FeederShares x = Check.told("slots 1 ; feeder 7 ; class p loss 0 profile 1 ; class q loss 0 profile 1 ; supplier s ; "
                + "meter a interval class p with s ; meter z flat class q with s ; meter b interval class p with s ; meter c export class p with s ; smears many - 1 ;");
        Check.due("each 1", 3, x.net(0, 0));
        Check.due("of another class", 0, x.net(1, 0));
        Check.due("each 1", 2, x.net(2, 0));
        Check.due("each 1", 2, x.net(3, 0));
        x.read(0, 0, 1);
        x.read(1, 0, 4);
        x.read(3, 0, 3);
        // 7 - 1 - 4 + 3 = 5 by 1, 0, 3: 1.25, 0, 3.75
        Check.due("residual", 5, x.residual(0));
        Check.due("a", 1 + 1, x.net(0, 0));
        Check.due("z", 4, x.net(1, 0));
        Check.due("b", 0, x.net(2, 0));
        Check.due("by GROSS without the sign", -3 + 4, x.net(3, 0));
        x.total(0, 0);
        // -2 by 1, 0, 3: 0.5, 0, 1.5: the first of equal ones
        Check.due("a", 1 - 1, x.net(0, 0));
        Check.due("c", -3 - 1, x.net(3, 0));
    }

    private static void leftIsNotSmeared() {
        FeederShares x = Check.told("slots 2 ; feeder 10 4 ; class k loss 0 profile 0 ; class e loss 0 profile 0 ; supplier s ; "
                + "meter m interval class k with s ; smears slot ;");
        Check.due("nothing is smeared", 0, x.smear(0, 0));
        Check.due("nothing is smeared", 0, x.net(0, 0));
        Check.due("it is left", 10, x.proof(0));
        Check.due("smeared", 4, x.smear(0, 1));
        Check.due("none is left", 0, x.proof(1));
        FeederShares y = Check.told("slots 1 ; feeder 10 ; class e loss 0 profile 0 ; supplier s ; smears 5 ;");
        Check.due("a class without meters", 0, y.smear(0, 0));
        Check.due("it is left", 10, y.proof(0));
        FeederShares z = Check.told("slots 1 ; feeder 10 ; smears 5 ;");
        Check.due("without classes it is left", 10, z.proof(0));
        FeederShares w = Check.told("slots 1 ; feeder 10 ; class k loss 0 profile 0 ; supplier s ; meter m export class k with s ;");
        w.read(0, 0, 5);
        Check.due("a weight below 0 is 0", 0, w.smear(0, 0));
        Check.due("it is left", 15, w.proof(0));
        Check.due("NET is GROSS", -5, w.net(0, 0));
    }

    private static void net() {
        FeederShares x = Check.told(GRID);
        x.read(0, 0, 20);
        x.read(1, 0, 100);
        x.read(1, 4, 180);
        x.read(2, 1, 10);
        x.read(3, 0, 5);
        int[][] due = {{59, 18, 30, 0}, {46, 28, 23, 0}, {0, 9, 11, 7}, {-5, -5, -4, -7}};
        for (int meter = 0; meter < 4; meter++) {
            for (int slot = 0; slot < 4; slot++) {
                Check.due("net of " + meter + " in " + slot, due[meter][slot], x.net(meter, slot));
            }
        }
    }

    private static void shareAndSum() {
        FeederShares x = Check.told("slots 2 ; feeder 10 20 ; class k loss 0 profile 0 ; supplier s ; supplier t ; supplier u ; "
                + "meter m interval class k with s ; meter n interval class k with t ;");
        x.read(0, 0, 4);
        x.read(1, 0, 4);
        Check.due("s", 5, x.share(0, 0));
        Check.due("t", 5, x.share(1, 0));
        Check.due("u", 0, x.share(2, 0));
        Check.due("s", 15, x.sum(0));
        x.move(1, 0, 1);
        Check.due("t then", 5, x.share(1, 0));
        Check.due("t from then on", 0, x.share(1, 1));
        Check.due("s from then on", 20, x.share(0, 1));
        Check.due("s", 25, x.sum(0));
        Check.due("t", 5, x.sum(1));
        Check.due("u", 0, x.sum(2));
    }

    private static void gaps() {
        FeederShares x = Check.told(GRID);
        Check.due("all", 15, x.gaps(0));
        Check.due("all", 15, x.gaps(1));
        x.read(0, 1, 0);
        Check.due("but slot 1", 13, x.gaps(0));
        x.read(3, 3, 0);
        Check.due("but slot 3", 7, x.gaps(3));
        x.read(2, 0, 0);
        Check.due("but slot 0", 14, x.gaps(2));
        x.read(1, 1, 5);
        Check.due("one place is not enough", 15, x.gaps(1));
        x.read(1, 3, 5);
        Check.due("but slots 1 and 2", 9, x.gaps(1));
        x.read(1, 4, 5);
        Check.due("but slots 1 to 3", 1, x.gaps(1));
        x.read(1, 0, 5);
        Check.due("none", 0, x.gaps(1));
        Check.due("no meter", -1, x.gaps(4));
        Check.due("no meter", -1, x.gaps(-1));
    }

    private static void stands() {
        FeederShares x = Check.told(GRID);
        Check.due("not known", -1, x.stands(1, 0));
        x.read(1, 1, 9998);
        Check.due("said", 9998, x.stands(1, 1));
        Check.due("none behind", -1, x.stands(1, 2));
        Check.due("none ahead", -1, x.stands(1, 0));
        x.read(1, 4, 8);
        // 10 by 2, 1, 1
        Check.due("5 more", 3, x.stands(1, 2));
        Check.due("7 more", 5, x.stands(1, 3));
        Check.due("said", 8, x.stands(1, 4));
        Check.due("none ahead", -1, x.stands(1, 0));
        Check.due("no place", -1, x.stands(1, 5));
        Check.due("no place", -1, x.stands(1, -1));
        x.read(0, 0, 5);
        Check.due("no register", -1, x.stands(0, 0));
        Check.due("no meter", -1, x.stands(4, 0));
        Check.due("no meter", -1, x.stands(-1, 0));
    }

    private static void proof() {
        FeederShares x = Check.told(GRID);
        Check.due("all is left", 100, x.proof(0));
        x.read(0, 0, 20);
        Check.due("nothing is left", 0, x.proof(0));
        Check.due("nothing is left", 0, x.proof(3));
        x.read(0, 0, 0);
        Check.due("all is left", 50, x.proof(1));
        x.read(3, 1, 5);
        Check.due("all is left, and more", 55, x.proof(1));
    }

    private static void worst() {
        FeederShares x = Check.told("slots 3 ; feeder 5 5 4 ; class k loss 0 profile 0 ; supplier s ; meter m interval class k with s ;");
        Check.due("the first", 0, x.worst());
        x.total(1, 6);
        Check.due("the greatest", 1, x.worst());
        x.read(0, 2, 11);
        Check.due("without its sign", 2, x.worst());
        x.read(0, 2, 10);
        Check.due("of equal ones the first", 1, x.worst());
        FeederShares y = Check.told("slots 2 ;");
        Check.due("all 0", 0, y.worst());
        Check.due("no slots", -1, new FeederShares().worst());
    }

    private static void lost() {
        FeederShares x = Check.told(GRID);
        Check.due("nothing", 0, x.lost());
        x.read(0, 0, 20);
        x.read(2, 0, 20);
        Check.due("2 in each slot", 8, x.lost());
        x.read(1, 0, 0);
        x.read(1, 4, 80);
        Check.due("and 1, 3, 1, 1", 14, x.lost());
        FeederShares y = Check.told("slots 2 ; class k loss 500 profile 0 ; supplier s ; meter m export class k with s ;");
        y.read(0, 0, 3);
        Check.due("below 0", -2, y.lost());
        Check.due("no slots", 0, new FeederShares().lost());
    }

    private static void others() {
        FeederShares x = Check.told(GRID);
        for (int other : new int[] {-1, 6, Integer.MAX_VALUE, Integer.MIN_VALUE}) {
            Check.refused("use", () -> x.use(other, 0));
            Check.refused("use", () -> x.use(0, other));
            Check.refused("gross", () -> x.gross(other, 0));
            Check.refused("gross", () -> x.gross(0, other));
            Check.refused("load", () -> x.load(other, 0));
            Check.refused("load", () -> x.load(0, other));
            Check.refused("residual", () -> x.residual(other));
            Check.refused("smear", () -> x.smear(other, 0));
            Check.refused("smear", () -> x.smear(0, other));
            Check.refused("net", () -> x.net(other, 0));
            Check.refused("net", () -> x.net(0, other));
            Check.refused("share", () -> x.share(other, 0));
            Check.refused("share", () -> x.share(0, other));
            Check.refused("sum", () -> x.sum(other));
            Check.refused("proof", () -> x.proof(other));
        }
        Check.refused("use", () -> x.use(4, 0));
        Check.refused("use", () -> x.use(0, 4));
        Check.refused("gross", () -> x.gross(4, 0));
        Check.refused("gross", () -> x.gross(0, 4));
        Check.refused("load", () -> x.load(2, 0));
        Check.refused("load", () -> x.load(0, 4));
        Check.refused("residual", () -> x.residual(4));
        Check.refused("smear", () -> x.smear(2, 0));
        Check.refused("smear", () -> x.smear(0, 4));
        Check.refused("net", () -> x.net(4, 0));
        Check.refused("net", () -> x.net(0, 4));
        Check.refused("share", () -> x.share(2, 0));
        Check.refused("share", () -> x.share(0, 4));
        Check.refused("sum", () -> x.sum(2));
        Check.refused("proof", () -> x.proof(4));
    }
}
