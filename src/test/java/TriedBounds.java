/** Terms 3 of the document, on: BOOKS, SEEN, DAYS, MARKS. */
final class TriedBounds {
    private static final String FOUR = HandBounds.FOUR;
    private static final String TWO = HandBounds.TWO;

    private TriedBounds() {
    }

    static void all() {
        Sentences.holds("(Tried: each question whose METERS, SUPPLIERS, places are as they may be opens a BOOK", TriedBounds::booksAreOpened);
        Sentences.holds("opens a BOOK and shuts it behind itself, however it ends", TriedBounds::booksAreShut);
        Sentences.holds("all is as ahead then.)", TriedBounds::allIsAsAhead);
        Sentences.holds("SWING of a METER, a place, what it would say (both as a READ may be), and a SUPPLIER", TriedBounds::swingAsAReadMayBe);
        Sentences.holds("all its SHARES, were that READ, less all now.", TriedBounds::swing);
        Sentences.holds("GAINS of a METER and a SUPPLIER: all SHARES of that SUPPLIER, were that METER with it in all slots, "
                + "less all now.", TriedBounds::gains);
        Sentences.holds("BEARS of a METER: by how much, without the sign, all SHARES of each SUPPLIER would be others, were nothing "
                + "of it READ, together.", TriedBounds::bears);
        Sentences.holds("HEAVIEST: the METER that BEARS the most; of equal ones the first.", TriedBounds::heaviest);
        seen();
        days();
    }

    private static void seen() {
        Sentences.holds("SEEN: that an unknown SUPPLIER has a SHARE of so much (-9999 to 9999) or more in a slot, or less", TriedBounds::seenMoreOrLess);
        Sentences.holds("8 at most, as all is when it is asked.", TriedBounds::eightSeen);
        Sentences.holds("WHO: SUPPLIERS by whom all SEEN is so (bits).", TriedBounds::who);
        Sentences.holds("ASK: the slot in which the greatest number of WHO with the same SHARE is the least", TriedBounds::ask);
        Sentences.holds("if that is less than all; of equal ones the first. A DRAW", TriedBounds::askOfEqualOnes);
    }

    private static void days() {
        Sentences.holds("A DRAW below m: g becomes (g * 1103515245 + 12345) modulo 2147483648 (g is the SEED at first); "
                + "it is g / 65536, cut, modulo m.", TriedBounds::draws);
        Sentences.holds("DAYS by a SEED of so many (1 to 60), tried, a BOOK", TriedBounds::daysInABook);
        Sentences.holds("each, if there are METERS and slots: a DRAW below METERS, one below slots, one below 200: that one is READ so there",
                TriedBounds::daysAreRead);
        Sentences.holds("all SHARES at last, together; how many slots have a PROOF that is not 0 at last; the WORST at last.",
                TriedBounds::daysAtLast);
        Sentences.holds("MARKS 0 and 1 hold what is READ, with whom METERS are, TOTALS, RUNS, what is SEEN", TriedBounds::marksHold);
        Sentences.holds("(not how many BOOKS were shut; nothing can be undone when one is gone back to).", TriedBounds::marksDoNotHold);
    }

    // ---- BOOKS

    private static void booksAreOpened() {
        FeederShares x = Check.told(FOUR);
        int books = 0;
        x.swing(1, 4, 9999, 1);
        Check.due("a swing", ++books, x.count(6));
        x.gains(3, 1);
        Check.due("gains", ++books, x.count(6));
        x.bears(3);
        Check.due("what one bears", ++books, x.count(6));
        x.heaviest();
        books += 4;
        Check.due("one for each meter", books, x.count(6));
        x.days(0, 1, 0);
        Check.due("days", ++books, x.count(6));
        int[][] wrong = {{-1, 0, 0}, {4, 0, 0}, {0, -1, 0}, {0, 4, 0}, {1, 5, 0}, {0, 0, -1}, {0, 0, 2}};
        for (int[] w : wrong) {
            Check.refused("swing", () -> x.swing(w[0], w[1], 0, w[2]));
        }
        Check.refused("gains", () -> x.gains(4, 0));
        Check.refused("gains", () -> x.gains(0, 2));
        Check.due("bears", -1, x.bears(4));
        Check.due("where meters, places, suppliers are wrong there is none", books, x.count(6));
        Check.due("nor without meters", -1, Check.told("slots 1 ;").heaviest());
        x.judged(2);
        x.who();
        x.ask();
        x.drift(0);
        Check.due("no other question opens one", books, x.count(6));
        FeederShares y = Check.told("class k loss 0 profile 0 ; supplier s ; meter r register class k with s ;");
        y.swing(0, 0, 0, 0);
        y.gains(0, 0);
        y.bears(0);
        y.heaviest();
        Check.due("without slots, too", 4, y.count(6));
    }

    private static void booksAreShut() {
        FeederShares x = Check.told(FOUR);
        x.read(0, 0, 20);
        String ahead = withoutBooks(x);
        Check.refused("more than a meter can say", () -> x.swing(0, 0, 1000, 0));
        Check.due("its book was opened, and shut as it ended", 1, x.count(6));
        Check.refused("less than a register can say", () -> x.swing(1, 4, -1, 0));
        Check.due("its book was opened, and shut as it ended", 2, x.count(6));
        Check.same("all is as ahead", ahead, withoutBooks(x));
        Check.due("it says what it said", 20, x.says(0, 0));
    }

    private static void allIsAsAhead() {
        FeederShares x = Check.told(TWO);
        x.read(0, 0, 20);
        x.read(1, 0, 9);
        x.move(0, 1, 1);
        x.run();
        x.see(0, 5, true);
        x.mark(1, false);
        String ahead = withoutBooks(x);
        x.swing(0, 0, 999, 0);
        Check.same("behind a swing", ahead, withoutBooks(x));
        x.gains(0, 0);
        Check.same("behind gains", ahead, withoutBooks(x));
        x.bears(0);
        x.heaviest();
        Check.same("behind what one bears", ahead, withoutBooks(x));
        x.days(1, 60, 0);
        Check.same("behind days", ahead, withoutBooks(x));
        Check.due("it can be undone as ahead", true, x.undo());
        Check.due("the run was the last", 0, x.count(5));
        Check.due("the mark is there", true, x.mark(1, true));
        Check.due("as it was laid", 1, x.count(5));
    }

    /** The count of BOOKS is the seventh number of the first line. */
    static String withoutBooks(FeederShares x) {
        return Snapshot.of(x).replaceFirst("^((?:\\S+ ){6})\\S+", "$1-");
    }

    private static void swingAsAReadMayBe() {
        FeederShares x = Check.told(FOUR);
        for (int meter = 0; meter < 4; meter++) {
            int m = meter;
            boolean register = meter == 1;
            int most = register ? 9999 : 999;
            int last = register ? 4 : 3;
            Check.due("the least at the first place", 0, x.swing(m, 0, 0, 0));
            Check.due("the most at the last place", 0, x.swing(m, last, most, 0));
            Check.refused("too much", () -> x.swing(m, last, most + 1, 0));
            Check.refused("too little", () -> x.swing(m, last, -1, 0));
            Check.refused("beyond the last place", () -> x.swing(m, last + 1, 0, 0));
            Check.refused("ahead of the first place", () -> x.swing(m, -1, 0, 0));
        }
    }

    private static void swing() {
        FeederShares x = Check.told(TWO.replace("smears 1 ;", ""));
        x.read(0, 0, 4);
        x.read(1, 0, 4);
        // were m 12 in slot 1: 12 and 4 of 20: 15 and 5 instead of 10 and 10
        Check.due("more", 5, x.swing(0, 1, 12, 0));
        Check.due("less", -5, x.swing(0, 1, 12, 1));
        Check.due("as it is", 0, x.swing(0, 0, 4, 0));
        Check.due("in place of what it says", -15, x.swing(0, 0, 0, 0));
        FeederShares y = Check.told(FOUR);
        y.read(1, 0, 0);
        Check.due("a register's last place: 100, 50, 60 and 0", 210, y.swing(1, 4, 80, 1));
    }

    private static void gains() {
        FeederShares x = Check.told(TWO);
        x.move(1, 0, 1);
        // s has 5 + 20, t has 5 + 0
        Check.due("n in slot 0, too", 5, x.gains(1, 0));
        Check.due("n in slot 1, too", 10, x.gains(1, 1));
        Check.due("it is with it", 0, x.gains(0, 0));
        Check.due("m in both", 15, x.gains(0, 1));
        Check.due("it is still with the other", 0, x.with(0, 0));
        Check.due("and from slot 1 on with s", 0, x.with(1, 1));
    }

    private static void bears() {
        FeederShares x = Check.told(TWO.replace("smears 1 ;", ""));
        Check.due("nothing is read", 0, x.bears(0));
        x.read(0, 0, 4);
        Check.due("it bears all", 30, x.bears(0));
        Check.due("it bears nothing", 0, x.bears(1));
        x.read(1, 1, 12);
        // slot 1: 4 and 12 of 20: 5 and 15; without m: 0 and 20, and 10 less in slot 0
        Check.due("15 less for s, 5 more for t", 20, x.bears(0));
        Check.due("15 more for s, 15 less for t", 30, x.bears(1));
        FeederShares y = Check.told("slots 2 ; feeder 0 20 ; class k loss 0 profile 0 ; class l loss 0 profile 0 ; supplier s ; "
                + "meter m interval class k with s ; meter n export class l with s ;");
        y.read(1, 0, 3);
        y.read(0, 1, 1);
        // as it is: -3 and 20; without n: 0 and 20; without m: -3 and -3
        Check.due("3 more", 3, y.bears(1));
        Check.due("23 less", 23, y.bears(0));
        FeederShares z = Check.told(TWO.replace("smears 1 ;", ""));
        z.read(0, 0, 4);
        z.read(1, 0, 4);
        z.move(0, 1, 1);
        z.move(1, 0, 1);
        // s has 5 and 10, t has 5 and 10; without m s has 0 and 20, t has 10 and 0
        Check.due("5 more for s, 5 less for t", 10, z.bears(0));
    }

    private static void heaviest() {
        FeederShares x = Check.told(TWO.replace("smears 1 ;", ""));
        Check.due("of equal ones the first", 0, x.heaviest());
        x.read(1, 0, 4);
        Check.due("the one that bears anything", 1, x.heaviest());
        x.read(0, 1, 12);
        x.read(1, 1, 12);
        Check.due("the one that bears more", 1, x.heaviest());
        x.read(0, 0, 4);
        Check.due("of equal ones the first", 0, x.heaviest());
        Check.due("without slots all bear nothing", 0, Check.told("class k loss 0 profile 0 ; supplier s ; meter m flat class k with s ; "
                + "meter n flat class k with s ;").heaviest());
    }

    // ---- SEEN

    /** In slot 0 the SUPPLIERS s, t, u have 4, 4, 2, in slot 1 6, 3, 3, in slot 2 -1, -1, -2. */
    private static FeederShares known() {
        FeederShares x = Check.told("slots 3 ; feeder 10 12 0 ; class k loss 0 profile 0 ; supplier s ; supplier t ; supplier u ; "
                + "meter m interval class k with s ; meter n interval class k with t ; meter o interval class k with u ; "
                + "meter p export class k with s ; meter q export class k with t ; meter r export class k with u ; smears 0 ;");
        int[][] says = {{4, 6, 0}, {4, 3, 0}, {2, 3, 0}, {0, 0, 1}, {0, 0, 1}, {0, 0, 2}};
        for (int meter = 0; meter < says.length; meter++) {
            for (int slot = 0; slot < 3; slot++) {
                x.read(meter, slot, says[meter][slot]);
            }
        }
        int[][] due = {{4, 6, -1}, {4, 3, -1}, {2, 3, -2}};
        for (int supplier = 0; supplier < 3; supplier++) {
            for (int slot = 0; slot < 3; slot++) {
                Check.due("share", due[supplier][slot], x.share(supplier, slot));
            }
        }
        x.mark(0, false);
        return x;
    }

    private static void whoOfOne(FeederShares x, int slot, int units, boolean more, int due) {
        x.mark(0, true);
        Check.due("seen", true, x.see(slot, units, more));
        Check.due((more ? "at least " : "less than ") + units + " in " + slot, due, x.who());
    }

    private static void seenMoreOrLess() {
        FeederShares x = known();
        whoOfOne(x, 0, 4, true, 3);
        whoOfOne(x, 0, 5, true, 0);
        whoOfOne(x, 0, 3, true, 3);
        whoOfOne(x, 0, 2, true, 7);
        whoOfOne(x, 0, 4, false, 4);
        whoOfOne(x, 0, 5, false, 7);
        whoOfOne(x, 0, 3, false, 4);
        whoOfOne(x, 0, 2, false, 0);
        whoOfOne(x, 2, -1, true, 3);
        whoOfOne(x, 2, -1, false, 4);
        whoOfOne(x, 1, 9999, true, 0);
        whoOfOne(x, 1, 9999, false, 7);
        whoOfOne(x, 1, -9999, true, 7);
        whoOfOne(x, 1, -9999, false, 0);
        Check.due("more than can be", false, x.see(0, 10000, true));
        Check.due("less than can be", false, x.see(0, -10000, false));
    }

    private static void eightSeen() {
        FeederShares x = known();
        for (int i = 1; i <= 8; i++) {
            Check.due("seen", true, x.see(0, -i, true));
            Check.due("how many", i, x.count(8));
        }
        Check.due("a ninth", false, x.see(0, 9999, true));
        Check.due("eight", 8, x.count(8));
        Check.due("the ninth is not looked at", 7, x.who());
        FeederShares y = known();
        for (int i = 0; i < 7; i++) {
            y.see(1, 0, true);
        }
        y.see(0, 4, true);
        Check.due("the eighth is looked at", 3, y.who());
        y.move(1, 2, 0);
        Check.due("as all is when it is asked", 5, y.who());
        y.undo();
        Check.due("as all is when it is asked", 3, y.who());
        y.read(2, 0, 4);
        Check.due("as all is when it is asked", 7, y.who());
    }

    private static void who() {
        FeederShares x = known();
        Check.due("nothing is seen", 7, x.who());
        x.see(0, 4, true);
        Check.due("s and t", 3, x.who());
        x.see(1, 4, false);
        Check.due("t alone", 2, x.who());
        x.see(2, -1, false);
        Check.due("none", 0, x.who());
        Check.due("without suppliers none", 0, Check.told("slots 1 ;").who());
        Check.due("all of four", 15, Check.told("supplier s ; supplier t ; supplier u ; supplier v ;").who());
    }

    private static void ask() {
        FeederShares x = known();
        x.read(2, 0, 4);
        x.read(5, 2, 1);
        // 4, 4, 4; 6, 3, 3; -1, -1, -1
        Check.due("slot 1 parts one from two", 1, x.ask());
        x.read(4, 2, 5);
        x.read(5, 2, 9);
        Check.due("slot 2 parts all", 2, x.ask());
        x.see(1, 4, false);
        Check.due("t and u by slot 2", 2, x.ask());
    }

    private static void askOfEqualOnes() {
        FeederShares x = known();
        Check.due("each slot parts one from two", 0, x.ask());
        x.see(0, 4, true);
        Check.due("of s and t slot 1 alone parts", 1, x.ask());
        x.see(1, 4, true);
        Check.due("s is known", -1, x.ask());
        x.see(1, 4, false);
        Check.due("it is none", -1, x.ask());
        FeederShares y = Check.told("slots 2 ; supplier s ; supplier t ;");
        Check.due("all have 0: that is not less than all", -1, y.ask());
        Check.due("no slots", -1, Check.told("supplier s ; supplier t ;").ask());
        Check.due("no suppliers", -1, Check.told("slots 2 ;").ask());
    }

    // ---- DAYS

    private static void draws() {
        // From 0: 12345 / 65536 is 0; 1406932606 / 65536 is 21468; 654583775 / 65536 is 9988.
        FeederShares x = Check.told("slots 3 ; feeder 500 500 500 ; class k loss 0 profile 0 ; supplier s ; supplier t ; "
                + "meter m interval class k with s ; meter n interval class k with t ; smears 0 ;");
        Check.due("m, 21468 modulo 3 is slot 0, 9988 modulo 200 is 188: in three slots", 3 * 188, x.days(0, 1, 0));
        Check.due("from 9999: 4241 is odd, so n, 233 modulo 3 is slot 2, 22049 modulo 200 is 49", 49, x.days(9999, 1, 0));
        Check.due("from 1: 16838 is even, so m, 5758 modulo 3 is slot 1, 10113 modulo 200 is 113", 2 * 113, x.days(1, 1, 0));
    }

    private static void daysInABook() {
        FeederShares x = Check.told(FOUR);
        Check.refused("none", () -> x.days(1, 0, 0));
        Check.refused("61", () -> x.days(1, 61, 0));
        Check.refused("less than none", () -> x.days(1, -1, 0));
        Check.due("no book", 0, x.count(6));
        x.days(1, 1, 0);
        x.days(1, 60, 0);
        Check.due("two books", 2, x.count(6));
        Check.due("nothing is read", 0, x.count(4));
        Check.due("the same again", x.days(1, 60, 0), x.days(1, 60, 0));
    }

    private static void daysAreRead() {
        for (int seed : new int[] {0, 1, 77, 9999}) {
            for (int many : new int[] {1, 2, 60}) {
                FeederShares x = Check.told(FOUR);
                FeederShares y = Check.told(FOUR);
                long g = seed;
                for (int day = 0; day < many; day++) {
                    int[] drawn = new int[3];
                    for (int i = 0; i < 3; i++) {
                        g = Math.floorMod(g * 1103515245L + 12345L, 2147483648L);
                        drawn[i] = (int) (g / 65536L % new int[] {4, 4, 200}[i]);
                    }
                    Check.due("it can be read so", true, y.read(drawn[0], drawn[1], drawn[2]) >= -1);
                }
                Check.due("as by hand", y.sum(0) + y.sum(1), x.days(seed, many, 0));
                Check.due("as by hand", y.worst(), x.days(seed, many, 2));
            }
        }
        FeederShares z = Check.told("slots 2 ; feeder 0 3 ;");
        Check.due("no meters: nothing is read", 1, z.days(5, 5, 2));
        FeederShares w = Check.told("class k loss 0 profile 0 ; supplier s ; meter r register class k with s ;");
        Check.due("no slots: nothing is read", 0, w.days(5, 5, 0));
        Check.due("no slots: nothing is read", -1, w.days(5, 5, 2));
    }

    private static void daysAtLast() {
        FeederShares x = Check.told("slots 2 ; feeder 500 900 ; class k loss 0 profile 0 ; supplier s ; meter m interval class k with s ; smears slot ;");
        int m = x.days(0, 60, 0);
        Check.due("slot 1 is smeared, slot 0 is not", true, m >= 900 && m < 1100);
        Check.due("one slot has a proof that is not 0", 1, x.days(0, 60, 1));
        Check.due("the worst", 1, x.days(0, 60, 2));
        x.total(1, 0);
        Check.due("the worst", 0, x.days(0, 60, 2));
        FeederShares y = Check.told("slots 3 ; feeder 5 0 7 ;");
        Check.due("without meters", 0, y.days(0, 1, 0));
        Check.due("two slots are left", 2, y.days(0, 1, 1));
        Check.due("the worst", 2, y.days(0, 1, 2));
    }

    // ---- MARKS

    private static void marksHold() {
        FeederShares x = Check.told(TWO);
        x.read(0, 0, 4);
        x.move(0, 1, 1);
        x.total(1, 7);
        x.run();
        x.see(0, 1, true);
        x.mark(0, false);
        String first = held(x);
        x.read(0, 0, 9);
        x.read(1, 1, 9);
        x.move(0, 0, 0);
        x.total(1, 70);
        x.total(0, 70);
        x.run();
        x.see(1, 2, false);
        x.mark(1, false);
        String second = held(x);
        Check.due("another one", false, first.equals(second));
        Check.due("back to 0", true, x.mark(0, true));
        Check.same("all that it holds", first, held(x));
        x.run();
        x.run();
        Check.due("back to 1", true, x.mark(1, true));
        Check.same("all that it holds", second, held(x));
        Check.due("back to 0 again", true, x.mark(0, true));
        Check.same("it is held still", first, held(x));
        marksHoldAccounts();
        marksHoldWhatIsSeen(1, 5, true, 3);
        marksHoldWhatIsSeen(0, 2, true, 3);
        marksHoldWhatIsSeen(0, 5, false, 2);
        Check.due("no mark 2", false, x.mark(2, false));
        Check.due("no mark -1", false, x.mark(-1, true));
    }

    private static void marksHoldAccounts() {
        FeederShares x = Check.told(TWO);
        x.mark(0, false);
        x.run();
        x.mark(1, false);
        x.mark(0, true);
        x.move(0, 1, 0);
        x.run();
        Check.due("one account", 1, x.accounts());
        Check.due("t", 1, x.account(0, 0));
        x.mark(1, true);
        Check.due("two accounts again", 2, x.accounts());
        Check.due("s", 0, x.account(0, 0));
        Check.due("of s", 15, x.owes(0, 0));
        Check.due("of t", 15, x.owes(1, 0));
    }

    /** One mark holds that s alone has 5 or more in slot 0; behind the other one another thing is SEEN. */
    private static void marksHoldWhatIsSeen(int slot, int units, boolean more, int who) {
        FeederShares x = Check.told("slots 2 ; feeder 10 20 ; class k loss 0 profile 0 ; supplier s ; supplier t ; "
                + "meter m flat class k with s ; meter n flat class k with t ;");
        x.read(0, 0, 7);
        x.read(1, 0, 3);
        x.mark(0, false);
        x.see(0, 5, true);
        x.mark(1, false);
        x.mark(0, true);
        Check.due("nothing is seen", 3, x.who());
        x.see(slot, units, more);
        Check.due("of 7 and 3, 14 and 6", who, x.who());
        x.mark(1, true);
        Check.due("s alone has 5 or more in slot 0", 1, x.who());
    }

    /** All but BOOKS and what can be undone, the seventh and the tenth number. */
    private static String held(FeederShares x) {
        return withoutBooks(x).replaceFirst("^((?:\\S+ ){9})\\S+", "$1-");
    }

    private static void marksDoNotHold() {
        FeederShares x = Check.told(TWO);
        x.bears(0);
        x.read(0, 0, 4);
        x.mark(0, false);
        Check.due("laid, it can still be undone", 1, x.count(9));
        x.bears(0);
        x.bears(0);
        x.read(0, 0, 5);
        Check.work(x, 0, "run ;");
        x.mark(0, true);
        Check.due("books", 3, x.count(6));
        Check.due("the work", 1, x.count(7));
        Check.due("nothing can be undone", 0, x.count(9));
        Check.due("nothing can be undone", false, x.undo());
        Check.due("it says what it said", 4, x.says(0, 0));
        x.read(0, 0, 6);
        Check.due("what comes behind it can be", true, x.undo());
        Check.due("it says what it said", 4, x.says(0, 0));
    }
}
