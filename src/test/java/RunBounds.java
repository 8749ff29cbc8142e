/** Terms 3 of the document: GAPS to LOST, RUNS and ACCOUNTS. */
final class RunBounds {
    private static final String FOUR = HandBounds.FOUR;
    private static final String TWO = HandBounds.TWO;

    private RunBounds() {
    }

    static void all() {
        Sentences.asksNothing("==== 3.");
        Sentences.holds("(By what is READ now.)", RunBounds::byNow);
        Sentences.holds("GAPS of a METER: slots in which its USE is not READ: of a register 0 for want of either place", RunBounds::gapsOfRegisters);
        Sentences.holds("else of no reading in just that slot (bits).", RunBounds::gapsOfOthers);
        Sentences.holds("STANDS of a register at a place: what it says there", RunBounds::standsAsSaid);
        Sentences.holds("else what it says at the last place ahead at which it was READ, and the CUT of the ADVANCE up to there, "
                + "modulo 10000", RunBounds::standsBetween);
        Sentences.holds("if it was READ both ahead and behind; else it is not known.", RunBounds::standsUnknown);
        Sentences.holds("PROOF of a slot: what the feeder brought less all SHARES.", RunBounds::proof);
        Sentences.holds("WORST: the slot of which the RESIDUAL is the greatest without its sign", RunBounds::worst);
        Sentences.holds("without its sign; of equal ones the first. LOST", RunBounds::worstOfEqualOnes);
        Sentences.holds("LOST: GROSS less USE, of all METERS in all slots, together.", RunBounds::lost);
        Sentences.holds("SETTLED of a RUN, a SUPPLIER and a slot: what was laid down.", RunBounds::settled);
        Sentences.holds("DIFFERENCE: that less what was by the RUN ahead (of the first one: that).", RunBounds::difference);
        Sentences.holds("DRIFT of a SUPPLIER: all its SHARES now less all by the last RUN (0: there is none).", RunBounds::drift);
        Sentences.holds("ACCOUNTS of the last RUN: those to which anything was added, even 0, each once", RunBounds::accountsOnceEach);
        Sentences.holds("in the order in which each came first, by METERS, then slots", RunBounds::accountsInOrder);
        Sentences.holds("how many; of the i-th SUPPLIER, CLASS, sum.", RunBounds::accountsAreTold);
        Sentences.holds("OWES of a SUPPLIER and a CLASS: the sum by the last RUN.", RunBounds::owes);
    }

    private static void byNow() {
        FeederShares x = Check.told(FOUR);
        x.read(1, 0, 0);
        x.read(1, 4, 80);
        x.run();
        Check.due("no gap", 0, x.gaps(1));
        Check.due("17 and 35, 17, 17 of 80", 6, x.lost());
        Check.due("16 up to place 1", 16, x.stands(1, 1));
        x.read(1, 4, 160);
        Check.due("32 now", 32, x.stands(1, 1));
        Check.due("as it is now", 3 + 6 + 3 + 3, x.lost());
        x.undo();
        x.undo();
        x.undo();
        Check.due("all are gaps now", 15, x.gaps(1));
        Check.due("nothing is lost now", 0, x.lost());
    }

    private static void gapsOfRegisters() {
        FeederShares x = Check.told(FOUR);
        Check.due("nothing is read", 15, x.gaps(1));
        x.read(1, 1, 5);
        Check.due("one place is not enough", 15, x.gaps(1));
        x.read(1, 3, 5);
        Check.due("between there is none", 9, x.gaps(1));
        x.read(1, 4, 5);
        Check.due("up to the last place", 1, x.gaps(1));
        x.read(1, 0, 5);
        Check.due("from the first place", 0, x.gaps(1));
        FeederShares y = Check.told(FOUR);
        y.read(1, 4, 5);
        Check.due("none ahead", 15, y.gaps(1));
        y.read(1, 0, 5);
        Check.due("both ends are enough", 0, y.gaps(1));
    }

    private static void gapsOfOthers() {
        for (int meter : new int[] {0, 2, 3}) {
            FeederShares x = Check.told(FOUR);
            Check.due("nothing is read", 15, x.gaps(meter));
            x.read(meter, 1, 0);
            Check.due("just that slot", 13, x.gaps(meter));
            x.read(meter, 3, 7);
            Check.due("the last slot, too", 5, x.gaps(meter));
            x.read(meter, 0, 7);
            x.read(meter, 2, 7);
            Check.due("none", 0, x.gaps(meter));
        }
        Check.due("no slots, no gaps", 0, Check.told("class k loss 0 profile 0 ; supplier s ; meter m flat class k with s ;").gaps(0));
        FeederShares y = Check.told(FOUR.replace("slots 4", "slots 12"));
        Check.due("twelve bits", 4095, y.gaps(0));
    }

    private static void standsAsSaid() {
        FeederShares x = Check.told(FOUR);
        x.read(1, 0, 0);
        x.read(1, 2, 9999);
        x.read(1, 4, 5);
        Check.due("the first place", 0, x.stands(1, 0));
        Check.due("between", 9999, x.stands(1, 2));
        Check.due("the last place", 5, x.stands(1, 4));
    }

    private static void standsBetween() {
        FeederShares x = Check.told(FOUR);
        x.read(1, 1, 9995);
        x.read(1, 4, 15);
        // 20 by 2, 1, 1
        Check.due("10 more: turned", 5, x.stands(1, 2));
        Check.due("15 more", 10, x.stands(1, 3));
        x.read(1, 4, 9999);
        Check.due("2 more", 9997, x.stands(1, 2));
        Check.due("3 more", 9998, x.stands(1, 3));
        x.read(1, 4, 5);
        Check.due("5 more: just turned", 0, x.stands(1, 2));
        x.read(1, 4, 2);
        Check.due("3.5 of 7, cut", 9998, x.stands(1, 2));
        Check.due("5.25 of 7, cut", 0, x.stands(1, 3));
        x.read(1, 2, 7);
        x.read(1, 4, 17);
        Check.due("5 more than at the last place ahead", 12, x.stands(1, 3));
    }

    private static void standsUnknown() {
        FeederShares x = Check.told(FOUR);
        Check.due("nothing is read", -1, x.stands(1, 0));
        x.read(1, 2, 50);
        Check.due("not ahead", -1, x.stands(1, 1));
        Check.due("not behind", -1, x.stands(1, 3));
        Check.due("not behind", -1, x.stands(1, 4));
        x.read(1, 4, 60);
        Check.due("both", 55, x.stands(1, 3));
        Check.due("not ahead still", -1, x.stands(1, 0));
    }

    private static void proof() {
        FeederShares x = Check.told(FOUR);
        Check.due("nothing is shared", 100, x.proof(0));
        Check.due("nothing was brought", 0, x.proof(3));
        x.read(0, 0, 20);
        Check.due("all is shared", 0, x.proof(0));
        x.read(0, 1, 0);
        x.read(3, 1, 5);
        Check.due("5 more than was brought", 55, x.proof(1));
        Check.due("without suppliers", 9, Check.told("slots 1 ; feeder 9 ;").proof(0));
    }

    private static void worst() {
        FeederShares x = Check.told("slots 3 ; feeder 5 4 3 ; class k loss 0 profile 0 ; supplier s ; meter m interval class k with s ; smears 0 ;");
        Check.due("5", 0, x.worst());
        x.total(2, 6);
        Check.due("6", 2, x.worst());
        x.read(0, 1, 11);
        x.read(0, 2, 0);
        Check.due("-7", 1, x.worst());
    }

    private static void worstOfEqualOnes() {
        FeederShares x = Check.told("slots 3 ; feeder 5 5 5 ; class k loss 0 profile 0 ; supplier s ; meter m interval class k with s ; smears 0 ;");
        Check.due("three are equal", 0, x.worst());
        x.total(0, 4);
        Check.due("two are equal", 1, x.worst());
        x.read(0, 0, 8);
        x.read(0, 1, 0);
        Check.due("-4, 5 and 5", 1, x.worst());
        x.read(0, 0, 9);
        Check.due("-5, 5 and 5", 0, x.worst());
        Check.due("all are 0", 0, Check.told("slots 2 ;").worst());
    }

    private static void lost() {
        FeederShares x = Check.told(FOUR);
        Check.due("nothing", 0, x.lost());
        x.read(0, 0, 20);
        x.read(2, 0, 20);
        Check.due("2 in each of four slots, of the one with losses", 8, x.lost());
        x.read(0, 3, 999);
        Check.due("2, 2, 2 and 99", 105, x.lost());
        FeederShares y = Check.told("slots 2 ; class k loss 500 profile 0 ; supplier s ; meter m export class k with s ;");
        y.read(0, 0, 3);
        Check.due("-4 less -3, twice", -2, y.lost());
    }

    private static void settled() {
        FeederShares x = Check.told(TWO);
        x.total(1, 7);
        for (int run = 0; run < 4; run++) {
            x.run();
            x.total(0, 100 * run);
        }
        int[] due = {10, 0, 100, 200};
        for (int run = 0; run < 4; run++) {
            Check.due("s in slot 0", due[run] / 2, x.settled(run, 0, 0));
            Check.due("t in slot 0", due[run] / 2, x.settled(run, 1, 0));
            Check.due("s in slot 1", 4, x.settled(run, 0, 1));
            Check.due("t in slot 1", 3, x.settled(run, 1, 1));
        }
    }

    private static void difference() {
        FeederShares x = Check.told(TWO);
        x.run();
        x.total(0, 4);
        x.run();
        x.total(0, 40);
        x.move(0, 1, 1);
        x.run();
        Check.due("of the first one: that", 5, x.difference(0, 0, 0));
        Check.due("of the first one: that", 10, x.difference(0, 1, 1));
        Check.due("2 less 5", -3, x.difference(1, 0, 0));
        Check.due("10 less 10", 0, x.difference(1, 0, 1));
        Check.due("20 less 2", 18, x.difference(2, 0, 0));
        Check.due("0 less 10", -10, x.difference(2, 0, 1));
        Check.due("20 less 10", 10, x.difference(2, 1, 1));
    }

    private static void drift() {
        FeederShares x = Check.told(TWO);
        Check.due("there is no run", 0, x.drift(0));
        x.run();
        Check.due("as it was", 0, x.drift(0));
        x.total(0, 16);
        x.total(1, 0);
        Check.due("8 and 0 less 5 and 10", -7, x.drift(0));
        x.move(0, 1, 0);
        Check.due("0 less 15", -15, x.drift(0));
        Check.due("16 less 15", 1, x.drift(1));
        x.run();
        Check.due("by the last run", 0, x.drift(1));
        x.undo();
        Check.due("by the first one again", 1, x.drift(1));
        x.undo();
        x.undo();
        x.undo();
        x.undo();
        Check.due("there is no run again", 0, x.drift(1));
    }

    private static void accountsOnceEach() {
        FeederShares x = Check.told("slots 3 ; class k loss 0 profile 0 ; class l loss 0 profile 0 ; supplier s ; supplier t ; "
                + "meter m flat class k with s ; meter n flat class k with s ; meter o flat class l with s ;");
        Check.due("no run", 0, x.accounts());
        x.run();
        Check.due("nothing but 0, and three meters, two accounts", 2, x.accounts());
        Check.due("even 0", 0, x.account(0, 2));
        x.move(0, 1, 2);
        Check.due("of the last run", 2, x.accounts());
        x.run();
        Check.due("one slot with another supplier is one more", 3, x.accounts());
        x.undo();
        x.move(0, 0, 0);
        x.move(1, 1, 0);
        x.run();
        Check.due("a run in place of the one undone", 3, x.accounts());
        x.undo();
        x.move(1, 0, 0);
        x.run();
        Check.due("a run in place of that", 2, x.accounts());
        FeederShares y = Check.told("slots 12 ; class a loss 0 profile 0 ; class b loss 0 profile 0 ; class c loss 0 profile 0 ; "
                + "class d loss 0 profile 0 ; supplier s ; supplier t ; supplier u ; supplier v ; meter e flat class a with s ; "
                + "meter f flat class b with s ; meter g flat class c with s ; meter h flat class d with s ; feeder 7 7 7 7 ; smears 1 ;");
        for (int meter = 0; meter < 4; meter++) {
            for (int supplier = 1; supplier < 4; supplier++) {
                y.move(meter, supplier, supplier);
            }
        }
        for (int run = 0; run < 4; run++) {
            Check.due("run", run, y.run());
            Check.due("all sixteen", 16, y.accounts());
        }
        Check.due("the last one", 3, y.account(15, 0));
        Check.due("the last one", 3, y.account(15, 1));
        Check.due("7 by four: 1 for the last", 1, y.account(15, 2));
        Check.refused("no more", () -> y.account(16, 0));
        Check.due("without meters", 0, accountsOf("slots 2 ; class k loss 0 profile 0 ; supplier s ;"));
        Check.due("without slots", 0, accountsOf("class k loss 0 profile 0 ; supplier s ; meter m flat class k with s ;"));
    }

    private static int accountsOf(String grid) {
        FeederShares x = Check.told(grid);
        x.run();
        return x.accounts();
    }

    private static void accountsInOrder() {
        FeederShares x = Check.told("slots 3 ; class k loss 0 profile 0 ; class l loss 0 profile 0 ; supplier s ; supplier t ; supplier u ; "
                + "meter m interval class l with u ; meter n interval class k with t ; meter o interval class l with s ;");
        x.move(0, 1, 1);
        x.move(0, 0, 2);
        x.move(1, 2, 2);
        x.run();
        int[][] due = {{2, 1}, {1, 1}, {0, 1}, {1, 0}, {2, 0}};
        Check.due("m in three slots, then n in two", due.length, x.accounts());
        for (int i = 0; i < due.length; i++) {
            Check.due("supplier", due[i][0], x.account(i, 0));
            Check.due("class", due[i][1], x.account(i, 1));
        }
    }

    private static void accountsAreTold() {
        FeederShares x = Check.told(TWO);
        x.move(1, 0, 1);
        x.run();
        int[][] due = {{0, 0, 5 + 10 + 10}, {1, 0, 5}};
        Check.due("two", 2, x.accounts());
        for (int i = 0; i < 2; i++) {
            for (int what = 0; what < 3; what++) {
                Check.due("account " + i, due[i][what], x.account(i, what));
            }
        }
    }

    private static void owes() {
        FeederShares x = Check.told(TWO + "class l loss 0 profile 0 ;");
        Check.due("no run", 0, x.owes(0, 0));
        x.run();
        Check.due("s", 15, x.owes(0, 0));
        Check.due("of a class without meters", 0, x.owes(0, 1));
        x.move(0, 1, 0);
        Check.due("laid down", 15, x.owes(0, 0));
        x.run();
        Check.due("by the last run it has none", 0, x.owes(0, 0));
        Check.due("t has all", 30, x.owes(1, 0));
    }
}
