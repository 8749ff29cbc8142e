/** Promises 1 to 4: a new object, the TAPE, the GRID and the WORK with their FAULTS. */
public final class TapeTest {
    private static final String SMALL = "slots 3 ; class kk loss 1 profile 2 ; supplier ss ; "
            + "meter mm register class kk with ss ; meter nn flat class kk with ss ; ";

    public static void main(String[] args) {
        newObject();
        feedKeepsSigns();
        feedKeepsOrder();
        feedStopsAtThousand();
        gridTakesTheTape();
        gridTakesAllPlace();
        gridBeginsAnew();
        gridForgetsTheOneAhead();
        gridFaults();
        gridNameFaults();
        gridCountFaults();
        tokens();
        lawFaults();
        lawValues();
        lawFacts();
        workIsTaken();
        workFaults();
        workWithoutSlots();
        Check.end("TapeTest");
    }

    private static void newObject() {
        FeederShares x = new FeederShares();
        Check.due("NONE", -1, FeederShares.NONE);
        for (int what = 0; what <= 10; what++) {
            Check.due("count of a new object " + what, 0, x.count(what));
        }
        Check.due("undo of a new object", false, x.undo());
        Check.due("worst of a new object", -1, x.worst());
        Check.due("heaviest of a new object", -1, x.heaviest());
        Check.due("who of a new object", 0, x.who());
        Check.due("ask of a new object", -1, x.ask());
        Check.due("judged of a new object", -1, x.judged(0));
        Check.due("empty grid", 0, x.grid());
        Check.due("empty work", 0, x.work());
    }

    private static void feedKeepsSigns() {
        for (int sign = 0; sign < 256; sign++) {
            FeederShares x = new FeederShares();
            boolean kept = sign == 10 || sign >= 32 && sign <= 126;
            Check.due("sign " + sign, kept ? 1 : 0, x.feed((long) sign << 56, 0, 0));
            Check.due("sign " + sign + " last", kept ? 2 : 0, x.feed(0, 0, sign));
            Check.due("signs that are kept", x.count(10), x.feed(-1, -1, Long.MIN_VALUE));
        }
    }

    private static void feedKeepsOrder() {
        FeederShares x = new FeederShares();
        Check.due("24 signs", 24, x.feed(0x736c6f7473203132L, 0x3b636c6173732061L, 0x206c6f73732038L << 8 | 0x37L));
        Check.due("then 14", 38, x.feed(0x2070726f66696c65L, 0x2039203b20L << 24, 0x20L));
        Check.due("grid", 0, x.grid());
        Check.due("slots, by the first long", 12, x.count(0));
        Check.due("class, by all of them", 1, x.count(1));
    }

    private static void feedStopsAtThousand() {
        FeederShares x = new FeederShares();
        Check.feed(x, "slots 7;");
        Check.due("signs", 992, Check.feed(x, " ".repeat(984)));
        Check.due("signs up to the last", 999, x.feed(0x20202020202020L, 0, 0));
        Check.due("the thousandth", 1000, x.feed(0x3b3b3b3b00000000L, 0, 0));
        Check.due("no more", 1000, x.feed(0x3b3b3b3b00000000L, 0x20, 0));
        Check.due("the sign that came last stands", 1 + 16 * 999, x.grid());
        Check.due("no sign", 0, x.count(10));
        Check.feed(x, " ".repeat(992) + "slots 7");
        Check.due("its end", 1 + 16 * 999, x.grid());
        Check.feed(x, " ".repeat(992) + "slots 7;;;;");
        Check.due("beyond the end", 0, x.grid());
        Check.due("slots", 7, x.count(0));
        Check.feed(x, " ".repeat(993) + "slots 7;;;;");
        Check.due("the end is at 1000", 1 + 16 * 1000, x.grid());
    }

    private static void gridTakesTheTape() {
        FeederShares x = Check.told(SMALL);
        Check.due("signs", 0, x.count(10));
        Check.feed(x, "slots 5 ; oh");
        Check.due("a fault", 1 + 16 * 10, x.grid());
        Check.due("the tape is taken", 0, x.count(10));
        Check.due("slots stay", 3, x.count(0));
        Check.due("meters stay", 2, x.count(3));
        Check.due("an empty tape is a grid", 0, x.grid());
        Check.due("of nothing", 0, x.count(0));
        Check.due("of no meters", 0, x.count(3));
    }

    private static void gridTakesAllPlace() {
        FeederShares x = Check.told("feeder 1 2 3 ;class load loss 0 profile 0;slots 2;supplier slot;"
                + "meter many export class load with slot;smears 1;class b loss 999 profile 99 0 99 0 99 0 99 0 99 0 99 0;");
        Check.due("slots", 2, x.count(0));
        Check.due("classes", 2, x.count(1));
        Check.due("suppliers", 1, x.count(2));
        Check.due("meters", 1, x.count(3));
        Check.due("feeder ahead of slots", 1, x.residual(0));
        Check.due("feeder ahead of slots", 2, x.residual(1));
        Check.refused("beyond the last slot", () -> x.residual(2));
        FeederShares y = Check.told("slots 3 ; feeder 9999 ;");
        Check.due("the first", 9999, y.residual(0));
        Check.due("others", 0, y.residual(1));
    }

    private static void gridBeginsAnew() {
        FeederShares x = Check.told(SMALL);
        Check.work(x, "run ;");
        x.read(0, 0, 5);
        x.move(0, 0, 0);
        x.total(0, 7);
        x.run();
        x.bears(0);
        x.see(0, 0, true);
        x.mark(0, false);
        x.mark(1, false);
        Check.due("readings", 1, x.count(4));
        Check.due("runs", 1, x.count(5));
        Check.due("books", 1, x.count(6));
        Check.due("lines", 1, x.count(7));
        Check.due("seen", 1, x.count(8));
        Check.due("to undo", 4, x.count(9));
        Check.feed(x, SMALL + "!");
        Check.due("a fault", 1 + 16 * SMALL.length(), x.grid());
        Check.due("all stays", 1, x.count(7));
        Check.due("all stays", 5, x.says(0, 0));
        Check.feed(x, SMALL);
        Check.due("grid", 0, x.grid());
        for (int what = 4; what <= 10; what++) {
            Check.due("anew " + what, 0, x.count(what));
        }
        Check.due("no undo", false, x.undo());
        Check.due("no mark", false, x.mark(0, true));
        Check.due("no mark", false, x.mark(1, true));
        Check.due("nothing read", -1, x.says(0, 0));
        Check.due("the feeder as told", 0, x.residual(0));
    }

    private static void gridForgetsTheOneAhead() {
        String grid = "slots 1 ; class k loss 0 profile 0 ; class l loss 0 profile 0 ; supplier s ; meter m flat class k with s ; ";
        FeederShares x = Check.told(grid + "meter n flat class k with s ; meter o flat class l with s ; feeder 9 ; smears many ;");
        Check.due("by two of three meters", 6, x.smear(0, 0));
        Check.feed(x, grid + "meter o flat class l with s ; feeder 8 ; smears many ;");
        Check.due("feeder and smears again, but once a grid", 0, x.grid());
        Check.due("by one of two meters", 4, x.smear(0, 0));
        Check.feed(x, grid);
        Check.due("no feeder, no smears", 0, x.grid());
        Check.due("the feeder of the one ahead is forgotten", 0, x.residual(0));
        x.total(0, 5);
        Check.due("its smears, too", 0, x.smear(0, 0));
        Check.feed(x, "feeder 7 ; smears 1 ; slots 1 ; oh");
        Check.due("a fault", 1 + 16 * 32, x.grid());
        Check.feed(x, "feeder 7 ; smears 1 ; slots 1 ;");
        Check.due("none behind it", 0, x.grid());
        Check.due("the feeder", 7, x.residual(0));
    }

    private static void gridFaults() {
        Check.gridFault(1, 0, "grid");
        Check.gridFault(1, 0, ";");
        Check.gridFault(1, 0, "read");
        Check.gridFault(1, 5, "slots");
        Check.gridFault(1, 6, "slots ");
        Check.gridFault(1, 6, "slots ;");
        Check.gridFault(4, 6, "slots 0 ;");
        Check.gridFault(0, 0, "slots 1 ;");
        Check.gridFault(0, 0, "slots 12 ;");
        Check.gridFault(4, 6, "slots 13 ;");
        Check.gridFault(1, 8, "slots 2 3 ;");
        Check.gridFault(3, 10, "slots 2 ; slots 2 ;");
        Check.gridFault(3, 10, "slots 1 ; slots 2 ;");
        Check.gridFault(3, 11, "feeder 2 ; feeder");
        Check.gridFault(3, 11, "smears 2 ; smears");
        Check.gridFault(1, 7, "feeder ;");
        Check.gridFault(1, 9, "feeder 1 a ;");
        Check.gridFault(0, 0, "feeder 9999 0 1 2 3 4 5 6 7 8 9 10 ;");
        Check.gridFault(1, 6, "class loss 1 profile 1 ;");
        Check.gridFault(1, 6, "class 1");
        Check.gridFault(1, 8, "class a 5");
        Check.gridFault(1, 8, "class a profile");
        Check.gridFault(0, 0, "class a loss 999 profile 99 ;");
        Check.gridFault(4, 13, "class a loss 1000 profile 99 ;");
        Check.gridFault(1, 17, "class a loss 999 ;");
        Check.gridFault(1, 25, "class a loss 999 profile ;");
        Check.gridFault(4, 25, "class a loss 999 profile 100 ;");
        Check.gridFault(1, 11, "supplier a b ;");
        Check.gridFault(1, 10, "supplier a");
    }

    private static void gridNameFaults() {
        String[] kept = {"slots", "feeder", "class", "loss", "profile", "supplier", "meter", "with", "smears",
            "read", "move", "total", "run", "interval", "register", "flat", "export", "not", "and", "or"};
        for (String word : kept) {
            Check.gridFault(1, 9, "supplier " + word + " ;");
            Check.gridFault(1, 6, "class " + word + " loss 1 profile 1 ;");
            Check.gridFault(1, 6, "meter " + word + " flat class a with b ;");
        }
        for (String word : new String[] {"load", "slot", "many", "lines", "days", "a", "abcdefgh", "grid", "work"}) {
            Check.gridFault(0, 0, "supplier " + word + " ;");
        }
        int end = SMALL.length();
        for (String word : new String[] {"kk", "ss", "mm", "nn"}) {
            Check.gridFault(3, end + 6, SMALL + "class " + word + " loss 1 profile 1 ;");
            Check.gridFault(3, end + 9, SMALL + "supplier " + word + " ;");
            Check.gridFault(3, end + 6, SMALL + "meter " + word + " flat class kk with ss ;");
        }
        Check.gridFault(1, end + 9, SMALL + "meter oo solar class kk with ss ;");
        Check.gridFault(1, end + 14, SMALL + "meter oo flat kk with ss ;");
        Check.gridFault(2, end + 20, SMALL + "meter oo flat class ss with ss ;");
        Check.gridFault(2, end + 20, SMALL + "meter oo flat class oo with ss ;");
        Check.gridFault(1, end + 20, SMALL + "meter oo flat class with ss ;");
        Check.gridFault(1, end + 23, SMALL + "meter oo flat class kk ss ;");
        Check.gridFault(2, end + 28, SMALL + "meter oo flat class kk with kk ;");
        Check.gridFault(2, end + 28, SMALL + "meter oo flat class kk with mm ;");
        Check.gridFault(1, end + 28, SMALL + "meter oo flat class kk with 5 ;");
        Check.gridFault(1, end + 31, SMALL + "meter oo flat class kk with ss ss ;");
        Check.gridFault(2, 19, "meter a flat class b with c ; class b loss 0 profile 0 ;");
        for (String kind : new String[] {"interval", "register", "flat", "export"}) {
            Check.gridFault(0, 0, SMALL + "meter oo " + kind + " class kk with ss ;");
        }
    }

    private static void gridCountFaults() {
        String classes = "class a loss 1 profile 1;class b loss 1 profile 1;class c loss 1 profile 1;class d loss 1 profile 1;";
        Check.gridFault(0, 0, classes);
        Check.gridFault(5, classes.length(), classes + "class");
        String suppliers = "supplier e;supplier f;supplier g;supplier h;";
        Check.gridFault(0, 0, suppliers);
        Check.gridFault(5, suppliers.length(), suppliers + "supplier a b");
        StringBuilder meters = new StringBuilder(classes + suppliers);
        for (String name : "i j k l m n".split(" ")) {
            meters.append("meter ").append(name).append(" flat class a with h;");
        }
        Check.gridFault(0, 0, meters.toString());
        Check.gridFault(5, meters.length(), meters + "meter");
        Check.gridFault(5, 34, "feeder 1 2 3 4 5 6 7 8 9 10 11 12 13 ;");
        Check.gridFault(0, 0, "feeder 1 2 3 4 5 6 7 8 9 10 11 12 ;");
        String profile = "class a loss 0 profile 1 2 3 4 5 6 7 8 9 1 1 1 ";
        Check.gridFault(0, 0, profile + ";");
        Check.gridFault(5, profile.length(), profile + "99");
        Check.gridFault(4, profile.length(), profile + "100");
        Check.gridFault(1, profile.length(), profile + "99999");
    }

    private static void tokens() {
        Check.gridFault(0, 0, "slots4;feeder1 2;class\na\nloss9profile 1;");
        Check.gridFault(0, 0, "slots 0004 ;");
        Check.gridFault(1, 6, "slots 00004 ;");
        Check.gridFault(1, 9, "supplier abcdefghi ;");
        Check.gridFault(0, 0, "supplier abcdefgh ;");
        Check.gridFault(1, 9, "supplier Abc ;");
        Check.gridFault(1, 10, "supplier a_b ;");
        Check.gridFault(1, 10, "supplier a1 ;");
        Check.gridFault(1, 0, "slotsfeed 4 ;");
        Check.gridFault(0, 0, "\n slots\n\n4   ; ");
        Check.gridFault(1, 8, "slots 4 :");
        Check.gridFault(1, 8, "slots 4 ,");
        Check.gridFault(1, 8, "slots 4 >");
        Check.gridFault(1, 0, "{");
        Check.gridFault(1, 1, " ~");
    }

    private static void lawFaults() {
        Check.gridFault(1, 7, "smears ;");
        Check.gridFault(1, 6, "smears");
        Check.gridFault(1, 7, "smears class ;");
        Check.gridFault(1, 7, "smears and ;");
        Check.gridFault(1, 7, "smears - 1 ;");
        Check.gridFault(1, 9, "smears 1 2 ;");
        Check.gridFault(1, 9, "smears 1 load ;");
        Check.gridFault(1, 9, "smears 1 not 2 ;");
        Check.gridFault(1, 9, "smears 1 ( 2 ) ;");
        Check.gridFault(1, 11, "smears 1 + ;");
        Check.gridFault(1, 11, "smears 1 + + 2 ;");
        Check.gridFault(1, 13, "smears 1 < 2 < 3 ;");
        Check.gridFault(1, 13, "smears 1 = 2 < 3 ;");
        Check.gridFault(1, 17, "smears 1 < 2 + 5 = 3 ;");
        Check.gridFault(0, 0, "smears 1 < 2 and 2 < 3 or 5 = 6 ;");
        Check.gridFault(0, 0, "smears (1 < 2) < (3 < 4) ;");
        Check.gridFault(1, 14, "smears (1 < 2 < 3) ;");
        Check.gridFault(1, 9, "smears 1 ) ;");
        Check.gridFault(1, 11, "smears ( 1 ;");
        Check.gridFault(1, 9, "smears ( ) ;");
        Check.gridFault(1, 8, "smears 1");
        Check.gridFault(1, 11, "smears load");
        Check.gridFault(1, 7, "smears home ;");
        Check.gridFault(1, 7, "smears 12345 ;");
        Check.gridFault(5, 24, "smears not not not not (1) ;");
        Check.gridFault(0, 0, "smears not not not not 1 ;");
        Check.gridFault(5, 27, "smears not not not not not 1 ;");
        Check.gridFault(5, 27, "smears not not not not not not 1 ;");
        Check.gridFault(5, 12, "smears (((((1))))) ;");
        Check.gridFault(5, 12, "smears ((((((1))))) ;");
        Check.gridFault(5, 12, "smears (((((not 1))))) ;");
        Check.gridFault(5, 12, "smears (((((many))))) ;");
        Check.gridFault(1, 12, "smears (((((home))))) ;");
        Check.gridFault(1, 12, "smears (((((;");
        Check.gridFault(0, 0, "smears ((((1)))) ;");
        Check.gridFault(0, 0, "smears ((((1)))) + (((not 1))) ;");
        Check.gridFault(5, 24, "smears ((((1)))) + (((((1))))) ;");
        Check.gridFault(0, 0, "smears not not 1 + not not not not 1 ;");
        Check.gridFault(0, 0, "smears " + "1+".repeat(490) + "1;");
    }

    /** The weight that an E has is seen by what of 9999 is smeared to a class that weighs 1. */
    private static void value(String e, int want) {
        FeederShares x = Check.told("slots 1 ; feeder 9999 ; class a loss 1 profile 0 ; class b loss 0 profile 0 ; supplier s ; "
                + "meter m interval class a with s ; meter n interval class b with s ; smears loss * (" + e + ") + (loss = 0) ;");
        int first = (int) (9999L * want / (want + 1));
        int cut = (int) (9999L * want % (want + 1));
        int other = 9999 / (want + 1);
        int otherCut = 9999 % (want + 1);
        if (first + other < 9999) {
            first += cut >= otherCut ? 1 : 0;
        }
        Check.due("what is smeared by " + e, first, x.smear(0, 0));
        Check.due("what is smeared to the other by " + e, 9999 - first, x.smear(1, 0));
    }

    private static void lawValues() {
        value("7", 7);
        value("1 + 2 * 3", 7);
        value("2 * 3 + 1", 7);
        value("(1 + 2) * 3", 9);
        value("9 - 3 - 2", 4);
        value("9 - (3 - 2)", 8);
        value("9 - 3 + 2", 8);
        value("1 - 5", 0);
        value("not 0", 1);
        value("not 5", 0);
        value("not not 5", 1);
        value("not 0 + 2", 3);
        value("not (0 + 2)", 0);
        value("not 0 * 5", 5);
        value("2 < 3", 1);
        value("3 < 3", 0);
        value("4 < 3", 0);
        value("3 = 3", 1);
        value("3 = 4", 0);
        value("1 + 1 < 1 + 2", 1);
        value("2 = 1 + 1", 1);
        value("2 and 4", 1);
        value("2 and 0", 0);
        value("0 or 9", 1);
        value("0 or 0", 0);
        value("0 - 1 or 0", 1);
        value("1 or 0 and 0", 0);
        value("1 or (0 and 0)", 1);
        value("0 and 0 or 1", 1);
        value("0 = 0 and 1 < 2", 1);
        value("5 + (3 < 4)", 6);
        value("0 < 9999 * 9999 * 30", 0);
        value("0 < 9999 * 9999 * 50", 1);
        value("0 - 9999 * 9999 * 30 < 0", 0);
    }

    private static void lawFacts() {
        FeederShares x = Check.told("slots 3 ; feeder 0 0 0 ; class a loss 500 profile 0 ; class b loss 30 profile 0 ; supplier s ; "
                + "meter m interval class a with s ; meter n interval class b with s ; meter o flat class b with s ; smears slot * 3 + many ;");
        x.read(0, 0, 100);
        Check.due("residual", -150, x.residual(0));
        Check.due("by many", -50, x.smear(0, 0));
        Check.due("by many", -100, x.smear(1, 0));
        Check.due("by slot", -67, x.smear(0, 1));
        Check.due("by slot", -83, x.smear(1, 1));
        Check.due("by slot", -70, x.smear(0, 2));
        FeederShares y = Check.told("slots 1 ; class a loss 500 profile 0 ; class b loss 30 profile 0 ; supplier s ; "
                + "meter m interval class a with s ; meter n interval class b with s ; smears loss ;");
        y.read(0, 0, 353);
        Check.due("residual", -529, y.residual(0));
        Check.due("by loss", -499, y.smear(0, 0));
        Check.due("by loss", -30, y.smear(1, 0));
        FeederShares z = Check.told("slots 1 ; feeder 9999 ; class a loss 0 profile 0 ; class b loss 0 profile 0 ; supplier s ; "
                + "meter m register class a with s ; meter n interval class b with s ; smears load * 2 ;");
        z.read(0, 0, 0);
        z.read(0, 1, 9000);
        z.read(1, 0, 999);
        Check.due("a residual below 0 is none here", 0, z.residual(0));
        z.total(0, 0);
        Check.due("9999 at most, and 1998", -8334, z.smear(0, 0));
        Check.due("9999 at most, and 1998", -1665, z.smear(1, 0));
    }

    private static void workIsTaken() {
        FeederShares x = Check.told(SMALL);
        Check.work(x, "read mm 3 9999; read nn 2 999;move mm ss 2;total 2 9999;run;");
        Check.due("lines", 5, x.count(7));
        Check.feed(x, "run ; run");
        Check.due("a fault", 1 + 16 * 9, x.work());
        Check.due("the work stays", 5, x.count(7));
        Check.due("the tape is taken", 0, x.count(10));
        Check.due("nothing is done by it", 0, x.count(4));
        Check.due("nothing is done by it", 0, x.count(9));
        Check.work(x, "run ;".repeat(30));
        Check.due("lines", 30, x.count(7));
        Check.due("an empty work", 0, x.work());
        Check.due("no lines", 0, x.count(7));
    }

    private static void workFaults() {
        FeederShares x = Check.told(SMALL);
        Check.workFault(x, 1, 0, "slots 4 ;");
        Check.workFault(x, 1, 0, "; run ;");
        Check.workFault(x, 1, 4, "run 1 ;");
        Check.workFault(x, 1, 3, "run");
        Check.workFault(x, 1, 5, "read 5");
        Check.workFault(x, 1, 5, "read run");
        Check.workFault(x, 2, 5, "read kk 0 0 ;");
        Check.workFault(x, 2, 5, "read ss 0 0 ;");
        Check.workFault(x, 1, 8, "read mm ;");
        Check.workFault(x, 0, 0, "read mm 3 0 ;");
        Check.workFault(x, 4, 8, "read mm 4 0 ;");
        Check.workFault(x, 0, 0, "read nn 2 0 ;");
        Check.workFault(x, 4, 8, "read nn 3 0 ;");
        Check.workFault(x, 1, 10, "read nn 2 ;");
        Check.workFault(x, 0, 0, "read nn 2 999 ;");
        Check.workFault(x, 4, 10, "read nn 2 1000 ;");
        Check.workFault(x, 0, 0, "read mm 2 9999 ;");
        Check.workFault(x, 1, 10, "read mm 2 10000 ;");
        Check.workFault(x, 1, 12, "read mm 2 9 9 ;");
        Check.workFault(x, 2, 5, "move ss ss 0 ;");
        Check.workFault(x, 2, 8, "move mm mm 0 ;");
        Check.workFault(x, 2, 8, "move mm kk 0 ;");
        Check.workFault(x, 1, 8, "move mm 0 ;");
        Check.workFault(x, 1, 11, "move mm ss ;");
        Check.workFault(x, 0, 0, "move mm ss 2 ;");
        Check.workFault(x, 4, 11, "move mm ss 3 ;");
        Check.workFault(x, 1, 6, "total mm");
        Check.workFault(x, 0, 0, "total 2 9999 ;");
        Check.workFault(x, 0, 0, "total 0 0 ; move mm ss 0 ; read mm 0 0 ; read nn 0 0 ;");
        Check.workFault(x, 4, 6, "total 3 0 ;");
        Check.workFault(x, 1, 8, "total 2 ;");
        Check.workFault(x, 5, 150, "run ;".repeat(30) + "run ;");
        Check.workFault(x, 5, 150, "run ;".repeat(30) + "total ;");
        Check.workFault(x, 1, 150, "run ;".repeat(30) + "bill ;");
        Check.workFault(x, 1, 150, "run ;".repeat(30) + ";");
    }

    private static void workWithoutSlots() {
        FeederShares x = Check.told("class k loss 0 profile 0 ; supplier s ; meter r register class k with s ; meter f flat class k with s ;");
        Check.workFault(x, 0, 0, "read r 0 9999 ;");
        Check.workFault(x, 4, 7, "read r 1 0 ;");
        Check.workFault(x, 4, 7, "read f 0 0 ;");
        Check.workFault(x, 4, 9, "move f s 0 ;");
        Check.workFault(x, 4, 6, "total 0 0 ;");
    }
}
