/** Terms 1 of the document, on: the E of smears, the FAULTS, and what a GRID or WORK without one begins. */
final class FaultBounds {
    private static final String BASE = TapeBounds.BASE;

    private FaultBounds() {
    }

    static void all() {
        law();
        faults();
        anew();
    }

    private static void law() {
        Sentences.holds("E: TEST { and TEST or or TEST }, from the left", FaultBounds::testsFromTheLeft);
        Sentences.holds("TEST: SUM, or SUM < SUM, or SUM = SUM", FaultBounds::comparedOnce);
        Sentences.holds("SUM: PRODUCT { + or - PRODUCT }", FaultBounds::sums);
        Sentences.holds("PRODUCT: PART { * PART }", FaultBounds::products);
        Sentences.holds("PART: a NUMBER, a fact, not PART, ( E )", FaultBounds::parts);
        Sentences.holds("no PART lies within 5 of not and ( )", FaultBounds::depth);
        Sentences.holds("Facts: load (the CLASS's LOAD in the slot), loss, slot, many (how many METERS the CLASS has).", FaultBounds::facts);
        Sentences.holds("Of not, and, or, < and = comes 1 or 0; what is not 0 is so", FaultBounds::trueIsOne);
        Sentences.holds("ints wrap", FaultBounds::intsWrap);
        Sentences.holds("Without smears: load.", FaultBounds::withoutSmears);
    }

    private static void faults() {
        Sentences.holds("FAULTS, kind + 16 * the place (from 0) of a token", FaultBounds::placesOfFaults);
        Sentences.holds("the end being one at the text's length", FaultBounds::theEnd);
        Sentences.holds("of the first token from the left that is wrong the least", FaultBounds::theFirstAndTheLeast);
        Sentences.holds("1 it is none, or can't stand there", FaultBounds::outOfPlace);
        Sentences.holds("2 a NAME of no CLASS (behind class of a METER), of no SUPPLIER (behind with, the second of move), "
                + "of no METER (behind read, move) told", FaultBounds::unknownNames);
        Sentences.holds("3 a NAME told already; slots, feeder, smears a second time", FaultBounds::toldAlready);
        Sentences.holds("4 a NUMBER that is not as told", FaultBounds::wrongNumbers);
        Sentences.holds("(of read: a place 0 to the slots, of a register, else to 1 fewer, it says 0 to 9999, of a register, "
                + "else to 999; of move, total: a slot)", FaultBounds::numbersOfAWork);
        Sentences.holds("5 one too many: the words class, supplier of a fifth, meter of a seventh", FaultBounds::oneLineTooMany);
        Sentences.holds("a thirteenth NUMBER of feeder, profile", FaultBounds::thirteenNumbers);
        Sentences.holds("the first word of a 31st line of a WORK", FaultBounds::thirtyFirstLine);
        Sentences.holds("not, or a PART, within 5 others", FaultBounds::partTooDeep);
    }

    private static void anew() {
        Sentences.holds("Without a FAULT a GRID is the GRID from then on", FaultBounds::gridFromThenOn);
        Sentences.holds("nothing READ, METERS", FaultBounds::nothingRead);
        Sentences.holds("METERS with SUPPLIERS as told", FaultBounds::suppliersAsTold);
        Sentences.holds("as told, no RUN", FaultBounds::noRun);
        Sentences.holds("no RUN, no WORK", FaultBounds::noWork);
        Sentences.holds("nothing SEEN", FaultBounds::nothingSeen);
        Sentences.holds("nothing can be undone, no BOOK", FaultBounds::nothingToUndo);
        Sentences.holds("no BOOK was shut", FaultBounds::noBook);
        Sentences.holds("no MARK is there", FaultBounds::noMark);
        Sentences.holds("A WORK is the WORK.", FaultBounds::workFromThenOn);
        Sentences.holds("At first: nothing.", FaultBounds::atFirst);
    }

    // ---- the E

    /**
     * Two CLASSES, of which the first one weighs as the E tells and the second one fills it up to 9999:
     * of 9999 the first one has just the WEIGHT.
     */
    private static void weighs(int want, String e) {
        FeederShares x = Check.told("slots 1 ; feeder 9999 ; class a loss 1 profile 0 ; class b loss 0 profile 0 ; supplier s ; "
                + "meter m flat class a with s ; meter n flat class b with s ; smears loss * ( " + e + " ) + ( loss = 0 ) * " + (9999 - want) + " ;");
        Check.due("the weight by " + e, want, x.smear(0, 0));
        Check.due("the other one's weight by " + e, 9999 - want, x.smear(1, 0));
    }

    private static void testsFromTheLeft() {
        weighs(0, "1 or 0 and 0");
        weighs(1, "1 or (0 and 0)");
        weighs(1, "0 and 0 or 1");
        weighs(0, "0 and (0 or 1)");
        weighs(1, "0 or 0 or 1");
        weighs(0, "1 and 1 and 0");
        Check.grid(1, "smears @and 1 ;");
        Check.grid(1, "smears 1 and @;");
        Check.grid(1, "smears 1 or @and 1 ;");
    }

    private static void comparedOnce() {
        weighs(1, "2 < 3");
        weighs(0, "3 < 3");
        weighs(0, "4 < 3");
        weighs(1, "3 = 3");
        weighs(0, "3 = 4");
        weighs(1, "1 + 1 < 1 + 2");
        weighs(1, "2 < 3 and 3 < 4 and 4 = 4");
        weighs(1, "(2 < 3) < (3 = 3) + 1");
        weighs(3, "3");
        Check.grid(1, "smears 1 < 2 @< 3 ;");
        Check.grid(1, "smears 1 = 2 @= 3 ;");
        Check.grid(1, "smears 1 = 2 @< 3 ;");
        Check.grid(1, "smears 1 < 2 + 3 * 4 @= 5 ;");
        Check.grid(1, "smears 1 and 2 < 3 @< 4 ;");
        Check.grid(1, "smears ( 1 < 2 @< 3 ) ;");
        Check.grid(0, "smears ( 1 < 2 ) < ( 3 < 4 ) or 5 < 6 ;");
    }

    private static void sums() {
        weighs(4, "9 - 3 - 2");
        weighs(8, "9 - (3 - 2)");
        weighs(8, "9 - 3 + 2");
        weighs(9, "4 + 5");
        weighs(7, "1 + 2 * 3");
        Check.grid(1, "smears @- 1 ;");
        Check.grid(1, "smears 1 + @+ 2 ;");
        Check.grid(1, "smears 1 - @;");
    }

    private static void products() {
        weighs(24, "2 * 3 * 4");
        weighs(7, "2 * 3 + 1");
        weighs(8, "2 * (3 + 1)");
        weighs(0, "9999 * 0");
        Check.grid(1, "smears @* 2 ;");
        Check.grid(1, "smears 2 * @* 3 ;");
        Check.grid(1, "smears 2 * @;");
    }

    private static void parts() {
        weighs(0, "0");
        weighs(9999, "9999");
        for (int number = 1; number <= 30; number++) {
            weighs(number, String.valueOf(number));
            Check.grid(0, "smears " + number + " ;");
        }
        weighs(1, "loss");
        weighs(1, "not 0");
        weighs(3, "not 0 + 2");
        weighs(0, "not (0 + 2)");
        weighs(5, "not 0 * 5");
        weighs(1, "not not 5");
        weighs(6, "((6))");
        Check.grid(1, "smears @;");
        Check.grid(1, "smears ( @) ;");
        Check.grid(1, "smears not @;");
        Check.grid(1, "smears not @and 1 ;");
        Check.grid(1, "smears 1 @not 2 ;");
        Check.grid(1, "smears 1 @( 2 ) ;");
        Check.grid(1, "smears 1 @2 ;");
        Check.grid(1, "smears ( 1 @;");
        Check.grid(1, "smears 1 @) ;");
        Check.grid(1, "smears @home ;");
        Check.grid(1, "smears @slots ;");
        Check.grid(1, "smears @10000 ;");
    }

    private static void depth() {
        Check.grid(0, "smears ((((1)))) ;");
        Check.grid(5, "smears (((((@1))))) ;");
        Check.grid(0, "smears not not not not 1 ;");
        Check.grid(5, "smears not not not not not @1 ;");
        Check.grid(0, "smears not ( not ( load ) ) ;");
        Check.grid(5, "smears not ( not ( not @load ) ) ;");
        Check.grid(0, "smears ((((1)))) + ((((2)))) * not not not not 3 < not not ((0)) ;");
        weighs(8, "(((1 + 2) * 2 + 2))");
        Check.grid(0, "smears " + "1 + ".repeat(200) + "1 ;");
        Check.grid(0, "smears " + "(((not 1))) + ".repeat(60) + "1 ;");
    }

    private static void facts() {
        FeederShares x = Check.told("slots 3 ; class a loss 500 profile 0 ; class b loss 30 profile 0 ; supplier s ; "
                + "meter m interval class a with s ; meter n interval class b with s ; meter o flat class b with s ; smears slot * 3 + many ;");
        x.read(0, 0, 100);
        Check.due("150 less than nothing", -150, x.residual(0));
        Check.due("1 of 1 and 2", -50, x.smear(0, 0));
        Check.due("4 of 4 and 5", -67, x.smear(0, 1));
        Check.due("7 of 7 and 8", -70, x.smear(0, 2));
        FeederShares y = Check.told("slots 1 ; class a loss 500 profile 0 ; class b loss 30 profile 0 ; supplier s ; "
                + "meter m interval class a with s ; meter n interval class b with s ; smears loss ;");
        y.read(0, 0, 353);
        Check.due("529 less than nothing", -529, y.residual(0));
        Check.due("500 of 500 and 30", -499, y.smear(0, 0));
        FeederShares z = Check.told("slots 2 ; class a loss 500 profile 0 ; class b loss 0 profile 0 ; supplier s ; "
                + "meter m interval class a with s ; meter n interval class b with s ; meter o flat class b with s ; smears load ;");
        z.read(0, 0, 20);
        z.read(1, 0, 25);
        z.read(2, 0, 35);
        z.read(1, 1, 5);
        Check.due("30 of 30 and 60, with the losses", -30, z.smear(0, 0));
        Check.due("25 and 35, together", -60, z.smear(1, 0));
        Check.due("30 of 30 and 40 in the slot behind", -30, z.smear(0, 1));
        Check.due("5 and 35, together", -40, z.smear(1, 1));
    }

    private static void trueIsOne() {
        weighs(1, "not 0");
        weighs(0, "not 1");
        weighs(0, "not 7");
        weighs(0, "not (0 - 1)");
        weighs(1, "2 and 4");
        weighs(0, "2 and 0");
        weighs(0, "0 and 2");
        weighs(1, "(0 - 1) and (0 - 1)");
        weighs(1, "0 or 9");
        weighs(1, "9 or 0");
        weighs(0, "0 or 0");
        weighs(1, "0 - 1 or 0");
        weighs(6, "5 + (3 < 4)");
        weighs(5, "5 + (4 < 4)");
        weighs(6, "5 + (4 = 4)");
        weighs(5, "5 + (4 = 5)");
    }

    private static void intsWrap() {
        weighs(1, "0 < 9999 * 9999 * 21");
        weighs(0, "0 < 9999 * 9999 * 22");
        weighs(1, "0 < 9999 * 9999 * 10 + 9999 * 9999 * 11");
        weighs(0, "0 < 9999 * 9999 * 11 + 9999 * 9999 * 11");
        weighs(0, "0 < 0 - 9999 * 9999 * 21");
        weighs(1, "0 < 0 - 9999 * 9999 * 11 - 9999 * 9999 * 11");
        weighs(1, "4096 * 4096 * 256 < 1");
        weighs(1, "4096 * 4096 * 256 = 0");
    }

    private static void withoutSmears() {
        String grid = "slots 1 ; feeder 90 ; class a loss 0 profile 0 ; class b loss 0 profile 0 ; supplier s ; "
                + "meter m flat class a with s ; meter n flat class b with s ; ";
        FeederShares x = Check.told(grid);
        x.read(0, 0, 10);
        x.read(1, 0, 20);
        Check.due("20 of 60 by load", 20, x.smear(0, 0));
        Check.due("40 of 60 by load", 40, x.smear(1, 0));
        FeederShares y = Check.told(grid + "smears 1 ;");
        Check.due("by halves", 45, y.smear(0, 0));
        Check.feed(y, grid + "smears not 0 ;");
        Check.due("another grid", 0, y.grid());
        Check.due("by halves", 45, y.smear(1, 0));
        Check.feed(y, grid + "smears 1 + ;");
        Check.due("a fault", true, y.grid() > 0);
        Check.due("still by halves", 45, y.smear(1, 0));
        Check.feed(y, grid);
        Check.due("a grid without smears behind it", 0, y.grid());
        Check.due("no load, so nothing is smeared", 0, y.smear(0, 0));
        Check.due("all is left", 90, y.proof(0));
        y.read(0, 0, 10);
        y.read(1, 0, 20);
        Check.due("20 of 60 by load", 20, y.smear(0, 0));
    }

    // ---- FAULTS

    private static void placesOfFaults() {
        Check.gridFault(1, 0, ";");
        Check.gridFault(1, 5, "     ;");
        Check.gridFault(1, 999, " ".repeat(999) + ";");
        Check.gridFault(3, 10, "slots 1 ; slots 1 ;");
        Check.gridFault(4, 6, "slots 13 ;");
        FeederShares x = Check.told(BASE);
        Check.workFault(x, 2, 5, "read zz 0 0 ;");
        Check.workFault(x, 4, 8, "read mm 4 0 ;");
        Check.workFault(x, 0, 0, "read mm 3 0 ;");
    }

    private static void theEnd() {
        Check.gridFault(1, 5, "slots");
        Check.gridFault(1, 6, "slots ");
        Check.gridFault(1, 9, "slots \n\n ");
        Check.gridFault(1, 7, "slots 3");
        Check.gridFault(1, 1000, "slots 3" + " ".repeat(993));
        FeederShares x = new FeederShares();
        Check.workFault(x, 1, 3, "run");
        Check.workFault(x, 1, 4, "run\n");
        Check.workFault(x, 0, 0, "run;");
        Check.workFault(x, 0, 0, "  ");
    }

    private static void theFirstAndTheLeast() {
        Check.grid(1, "slots @; slots 13 ; slots 1 ;");
        Check.grid(4, "slots @13 ; what ;");
        Check.grid(4, "slots @0 0 0");
        Check.grid(3, "slots 1 ; @slots 13 ;");
        Check.grid(4, "class a loss 0 profile 1 2 3 4 5 6 7 8 9 10 11 12 @100 ;");
        Check.grid(5, "class a loss 0 profile 1 2 3 4 5 6 7 8 9 10 11 12 @99 ;");
        Check.grid(1, "class a loss 0 profile 1 2 3 4 5 6 7 8 9 10 11 12 @10000 ;");
        Check.grid(1, "smears (((((@home))))) ;");
        Check.grid(1, "smears (((((@;");
        FeederShares x = Check.told(BASE);
        Check.work(x, 1, "run;".repeat(30) + "@what ;");
        Check.work(x, 5, "run;".repeat(30) + "@run what ;");
        Check.work(x, 2, "read @ss 99 99 ;");
        Check.work(x, 2, "move mm @zz 99 ;");
        for (String line : new String[] {"total 0", "total", "read mm 0", "read", "move mm ss", "move", "run"}) {
            Check.work(x, 1, line + " @run ; what ;");
        }
        for (String line : new String[] {"slots", "feeder", "class", "class a loss", "supplier", "meter", "smears"}) {
            Check.grid(1, line + " @supplier b ; what ;");
        }
    }

    private static void outOfPlace() {
        Check.grid(1, "@?");
        Check.grid(1, "@12 ;");
        Check.grid(1, "@a ;");
        Check.grid(1, "@( ;");
        Check.grid(1, "slots 3 ; @3 ;");
        Check.grid(1, "slots @three ;");
        Check.grid(1, "feeder 1 2 @a ;");
        Check.grid(1, "class a @lose 1 profile 1 ;");
        Check.grid(1, "class a loss 1 @shape 1 ;");
        Check.grid(1, "meter a flat @b with c ;");
        FeederShares x = Check.told(BASE);
        Check.work(x, 1, "@slots 3 ;");
        Check.work(x, 1, "@mm 0 0 ;");
        Check.work(x, 1, "read @0 0 0 ;");
        Check.work(x, 1, "read mm @nn 0 ;");
        Check.work(x, 1, "move mm @0 0 ;");
        Check.work(x, 1, "total @mm 0 ;");
        Check.work(x, 1, "run @0 ;");
    }

    private static void unknownNames() {
        Check.grid(2, BASE + "meter oo flat class @zz with ss ;");
        Check.grid(2, BASE + "meter oo flat class @ss with ss ;");
        Check.grid(2, BASE + "meter oo flat class kk with @zz ;");
        Check.grid(2, BASE + "meter oo flat class kk with @mm ;");
        FeederShares x = Check.told(BASE);
        for (String none : new String[] {"zz", "kk", "ss"}) {
            Check.work(x, 2, "read @" + none + " 0 0 ;");
            Check.work(x, 2, "move @" + none + " ss 0 ;");
        }
        for (String none : new String[] {"zz", "kk", "mm"}) {
            Check.work(x, 2, "move mm @" + none + " 0 ;");
        }
        Check.work(x, 0, "move nn ss 0 ; read nn 0 0 ;");
        Check.work(new FeederShares(), 2, "read @mm 0 0 ;");
    }

    private static void toldAlready() {
        Check.grid(3, BASE + "class @kk loss 1 profile 1 ;");
        Check.grid(3, BASE + "supplier @mm ;");
        Check.grid(3, BASE + "meter @ss flat class kk with ss ;");
        Check.grid(3, "slots 1 ; @slots");
        Check.grid(3, "feeder 1 ; @feeder");
        Check.grid(3, "smears 1 ; @smears");
        Check.grid(0, "slots 1 ; feeder 1 ; smears 1 ;");
    }

    private static void wrongNumbers() {
        Check.grid(4, "slots @0 ;");
        Check.grid(4, "slots @13 ;");
        Check.grid(4, "class a loss @1000 profile 1 ;");
        Check.grid(4, "class a loss 999 profile @100 ;");
        Check.grid(4, "class a loss 999 profile 1 @100 ;");
        Check.grid(0, "slots 12 ; class a loss 999 profile 0 99 ; class b loss 0 profile 99 0 ; feeder 9999 0 ;");
    }

    private static void numbersOfAWork() {
        FeederShares x = Check.told("slots 3 ; class kk loss 1 profile 2 ; supplier ss ; meter a interval class kk with ss ; "
                + "meter b register class kk with ss ; meter c flat class kk with ss ; meter d export class kk with ss ;");
        for (String name : new String[] {"a", "b", "c", "d"}) {
            boolean register = name.equals("b");
            Check.work(x, 0, "read " + name + " 0 0 ;");
            Check.work(x, 0, "read " + name + " 2 999 ;");
            Check.work(x, register ? 0 : 4, register ? "read b 3 9999 ;" : "read " + name + " @3 9999 ;");
            Check.work(x, register ? 0 : 4, "read " + name + " 0 " + (register ? "" : "@") + "1000 ;");
            Check.work(x, 4, "read " + name + " @4 0 ;");
            Check.work(x, 1, "read " + name + " 0 @10000 ;");
            Check.work(x, 0, "move " + name + " ss 0 ; move " + name + " ss 2 ;");
            Check.work(x, 4, "move " + name + " ss @3 ;");
        }
        Check.work(x, 0, "total 0 0 ; total 2 9999 ;");
        Check.work(x, 4, "total @3 0 ;");
        FeederShares y = Check.told("class kk loss 1 profile 2 ; supplier ss ; meter a interval class kk with ss ; "
                + "meter b register class kk with ss ;");
        Check.work(y, 4, "read a @0 0 ;");
        Check.work(y, 0, "read b 0 9999 ;");
        Check.work(y, 4, "read b @1 0 ;");
        Check.work(y, 4, "move a ss @0 ;");
        Check.work(y, 4, "total @0 0 ;");
    }

    private static void oneLineTooMany() {
        StringBuilder text = new StringBuilder();
        for (String name : "a b c d".split(" ")) {
            text.append("class ").append(name).append(" loss 1 profile 1 ;");
        }
        Check.grid(5, text + "@class a");
        Check.grid(5, text + "@class");
        for (String name : "e f g h".split(" ")) {
            text.append("supplier ").append(name).append(" ;");
        }
        Check.grid(5, text + "@supplier a");
        Check.grid(5, text + "@supplier");
        for (String name : "i j k l m n".split(" ")) {
            text.append("meter ").append(name).append(" flat class d with h ;");
        }
        Check.grid(5, text + "@meter a");
        Check.grid(5, text + "@meter");
        Check.grid(0, text.toString());
    }

    private static void thirteenNumbers() {
        String twelve = " 1 2 3 4 5 6 7 8 9 10 11 12 ";
        Check.grid(5, "feeder" + twelve + "@13 ;");
        Check.grid(5, "feeder" + twelve + "@9999");
        Check.grid(0, "feeder" + twelve + ";");
        Check.grid(5, "class a loss 0 profile" + twelve + "@13 ;");
        Check.grid(5, "class a loss 0 profile" + twelve + "@0");
        Check.grid(0, "class a loss 0 profile" + twelve + ";");
    }

    private static void thirtyFirstLine() {
        FeederShares x = Check.told(BASE);
        for (String word : new String[] {"run", "read", "move", "total"}) {
            Check.work(x, 5, "run;".repeat(30) + "@" + word);
            Check.work(x, 5, "total 0 0;".repeat(30) + "@" + word + " ;");
        }
        Check.work(x, 1, "run;".repeat(30) + "@;");
        Check.work(x, 0, "run;".repeat(30) + " ");
    }

    private static void partTooDeep() {
        for (String part : new String[] {"1", "load", "loss", "slot", "many", "not 1", "(1)"}) {
            Check.grid(5, "smears (((((@" + part);
            Check.grid(5, "smears not not not not not @" + part);
            Check.grid(5, "smears ( not ( not ( @" + part + " + 2 ) ) ) ;");
            Check.grid(5, "smears 1 + not ((((@" + part + ")))) ;");
        }
        Check.grid(5, "smears ((((2 * not @1)))) ;");
        Check.grid(0, "smears (((2 * not 1))) ;");
    }

    // ---- what a GRID begins anew, and a WORK

    /** An object in which there is something of all that there can be. */
    private static FeederShares busy() {
        FeederShares x = Check.told(BASE + "supplier tt ; feeder 7 8 9 ;");
        Check.work(x, "run ; run ;");
        x.read(0, 0, 5);
        x.read(1, 1, 6);
        x.move(0, 1, 0);
        x.total(0, 99);
        x.run();
        x.run();
        x.bears(0);
        x.heaviest();
        x.see(0, 0, true);
        x.mark(0, false);
        x.mark(1, false);
        return x;
    }

    private static FeederShares again() {
        FeederShares x = busy();
        Check.feed(x, BASE + "supplier tt ; feeder 7 8 9 ;");
        Check.due("the grid again", 0, x.grid());
        return x;
    }

    private static void gridFromThenOn() {
        FeederShares x = busy();
        Check.feed(x, "slots 1 ; feeder 4 ;");
        Check.due("another grid", 0, x.grid());
        for (int what = 1; what <= 10; what++) {
            Check.due("nothing of the one ahead, " + what, 0, x.count(what));
        }
        Check.due("one slot", 1, x.count(0));
        Check.due("what its feeder brought", 4, x.residual(0));
        lawsOneBehindAnother();
        for (String grid : new String[] {TapeBounds.BASE, HandBounds.TWO, "slots 1 ; feeder 9 ; class k loss 0 profile 0 ; class l loss 7 profile 1 ; "
            + "supplier s ; meter m flat class l with s ; meter n flat class k with s ; smears 1 ;"}) {
            Check.same("as of a new object", deeds(new FeederShares(), grid), deeds(full(), grid));
        }
        FeederShares z = Check.told("slots 1 ; class a loss 0 profile 0 ; class b loss 0 profile 0 ; supplier s ; "
                + "meter m flat class a with s ; meter n flat class a with s ; meter o flat class b with s ; smears many ;");
        Check.feed(z, "slots 1 ; feeder 8 ; class a loss 0 profile 0 ; class b loss 0 profile 0 ; supplier s ; "
                + "meter n flat class a with s ; meter o flat class b with s ; smears many ;");
        Check.due("a grid with fewer meters", 0, z.grid());
        Check.due("by as many as there are", 4, z.smear(0, 0));
        FeederShares y = busy();
        String ahead = Snapshot.of(y);
        Check.feed(y, "slots 1 ; feeder 4 ; supplier tt ; supplier tt ;");
        Check.due("a grid with a fault", 3 + 16 * 44, y.grid());
        Check.same("all stays then", ahead, Snapshot.of(y));
        Check.due("marks, too", true, y.mark(1, true));
    }

    /** An object in which all that there can be is there, and is great. */
    private static FeederShares full() {
        StringBuilder grid = new StringBuilder("slots 12 ; feeder 9999 9998 9997 9996 9995 9994 9993 9992 9991 9990 9989 9988 ; smears many * 9 + load ;");
        for (char name = 'a'; name <= 'd'; name++) {
            grid.append("class ").append(name).append(" loss 99").append(name - 'a').append(" profile 99 9 ; supplier s").append(name).append(" ;");
        }
        for (int meter = 0; meter < 6; meter++) {
            grid.append("meter ").append("efghij".charAt(meter)).append(" register class ").append("aaabcd".charAt(meter)).append(" with sa ;");
        }
        FeederShares x = Check.told(grid.toString());
        for (int meter = 0; meter < 6; meter++) {
            for (int place = 0; place <= 12; place++) {
                x.read(meter, place, 9000 - place * 700 - meter);
            }
            x.move(meter, meter % 4, 5);
        }
        for (int run = 0; run < 4; run++) {
            x.run();
        }
        for (int i = 0; i < 8; i++) {
            x.see(11 - i, 9999 - i, i % 2 == 0);
        }
        x.mark(0, false);
        x.mark(1, false);
        Check.work(x, "run ;".repeat(30));
        x.heaviest();
        return x;
    }

    private static String deeds(FeederShares x, String grid) {
        Check.feed(x, grid);
        StringBuilder b = new StringBuilder(x.grid() + " " + x.lost() + " " + x.worst() + " " + x.ask() + "\n" + Snapshot.of(x));
        x.read(0, 0, 5);
        x.run();
        b.append('\n').append(Snapshot.of(x)).append('\n').append(x.lost()).append(' ').append(x.net(0, 0));
        b.append(' ').append(x.bears(0)).append(' ').append(x.days(5, 5, 0)).append(' ').append(x.heaviest()).append(' ').append(x.judged(2));
        return b.toString();
    }

    /** Whatever the E of one GRID was, and wherever its FAULT, that of the next one is read as by a new object. */
    private static void lawsOneBehindAnother() {
        String grid = "slots 1 ; feeder 9999 ; class a loss 1 profile 0 ; class b loss 0 profile 0 ; supplier s ; "
                + "meter m flat class a with s ; meter n flat class b with s ; smears ";
        String[] laws = {"loss < 2", "((1 < loss +", "not (loss = 1)", "(((((1", "not not not not loss", "1 + (2 * 3 < 4 and not",
            "((((loss + 5))))", "loss and 2 or", "loss = 1", "(1 + 2 * 3 - 4 )))", "2 < loss or loss", "loss * 3 + 1", "1 + loss * 7 < 4 and 5"};
        for (String ahead : laws) {
            for (String law : laws) {
                FeederShares x = new FeederShares();
                Check.feed(x, "smears " + ahead + " ;");
                x.grid();
                Check.feed(x, grid + law + " ;");
                FeederShares y = new FeederShares();
                Check.feed(y, grid + law + " ;");
                int due = y.grid();
                Check.due("the fault of «" + law + "» behind «" + ahead + "»", due, x.grid());
                if (due == 0) {
                    Check.due("«" + law + "» behind «" + ahead + "»", y.smear(0, 0), x.smear(0, 0));
                }
            }
        }
    }

    private static void nothingRead() {
        FeederShares x = again();
        Check.due("readings", 0, x.count(4));
        Check.due("at no place", 0, x.meter(0, 2));
        Check.due("it says nothing", -1, x.says(0, 0));
        Check.due("it says nothing", -1, x.says(1, 1));
        Check.due("all are gaps", 7, x.gaps(1));
    }

    private static void suppliersAsTold() {
        FeederShares x = again();
        for (int slot = 0; slot < 3; slot++) {
            Check.due("with ss again", 0, x.with(0, slot));
        }
        Check.due("what the feeder brought, as told", 7, x.residual(0));
    }

    private static void noRun() {
        FeederShares x = again();
        Check.due("runs", 0, x.count(5));
        Check.due("accounts", 0, x.accounts());
        Check.due("owes nothing", 0, x.owes(1, 0));
        Check.refused("none is laid down", () -> x.settled(0, 0, 0));
        Check.due("the first one", 0, x.run());
    }

    private static void noWork() {
        FeederShares x = again();
        Check.due("lines", 0, x.count(7));
        Check.due("no runs are judged", 0, x.judged(1));
    }

    private static void nothingSeen() {
        FeederShares x = again();
        Check.due("seen", 0, x.count(8));
        Check.due("it can be all", 3, x.who());
    }

    private static void nothingToUndo() {
        FeederShares x = again();
        Check.due("to undo", 0, x.count(9));
        Check.due("nothing can be", false, x.undo());
    }

    private static void noBook() {
        Check.due("three books", 3, busy().count(6));
        Check.due("no book", 0, again().count(6));
    }

    private static void noMark() {
        FeederShares x = again();
        Check.due("mark 0", false, x.mark(0, true));
        Check.due("mark 1", false, x.mark(1, true));
    }

    private static void workFromThenOn() {
        FeederShares x = Check.told(BASE);
        Check.work(x, "run ; run ; read mm 0 5 ;");
        Check.due("three lines", 3, x.count(7));
        Check.due("nothing is read by it", 0, x.count(4));
        Check.due("no run by it", 0, x.count(5));
        Check.work(x, "run ;");
        Check.due("the new one alone", 1, x.count(7));
        Check.due("the new one alone", 1, x.judged(1));
        Check.work(x, 1, "run ; run ; @what");
        Check.due("with a fault the old one stays", 1, x.judged(1));
        x.read(0, 0, 3);
        Check.work(x, "");
        Check.due("an empty one", 0, x.count(7));
        Check.due("what is read stays", 3, x.says(0, 0));
    }

    private static void atFirst() {
        FeederShares x = new FeederShares();
        for (int what = 0; what <= 10; what++) {
            Check.due("count " + what, 0, x.count(what));
        }
        Check.due("nothing can be undone", false, x.undo());
        Check.due("no mark", false, x.mark(0, true));
        Check.due("no mark", false, x.mark(1, true));
        Check.due("no line is judged", -1, x.judged(0));
        Check.due("the first run", 0, x.run());
    }
}
