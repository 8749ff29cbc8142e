/** Terms 1 of the document: the TAPE, its TOKENS, and the lines of a GRID and of a WORK. */
final class TapeBounds {
    /** A GRID to which lines are put that need a CLASS, a SUPPLIER and METERS. */
    static final String BASE = "slots 3 ; class kk loss 1 profile 2 ; supplier ss ; "
            + "meter mm register class kk with ss ; meter nn flat class kk with ss ; ";

    private static final String[] KEPT = {"slots", "feeder", "class", "loss", "profile", "supplier", "meter", "with", "smears",
        "read", "move", "total", "run", "interval", "register", "flat", "export", "not", "and", "or"};

    private TapeBounds() {
    }

    static void all() {
        Sentences.asksNothing("==== 1.");
        Sentences.holds("The TAPE has at most 1,000 signs", TapeBounds::aThousandSigns);
        Sentences.holds("1,000 signs, 10 and 32 .. 126;", TapeBounds::signsThatStand);
        Sentences.holds("what reads it takes it: it is empty then.", TapeBounds::readingEmptiesTheTape);
        Sentences.holds("TOKENS, each as long as can be, blanks (10, 32) between where one likes", TapeBounds::tokensAndBlanks);
        Sentences.holds("WORDS (letters a .. z, 8 at most)", TapeBounds::words);
        Sentences.holds("NUMBERS (1 to 4 digits; a letter may stand right behind)", TapeBounds::numbers);
        Sentences.holds("the signs ( ) < = + - * ;", TapeBounds::signs);
        Sentences.holds("All else (a longer WORD or NUMBER, too, at its first sign) is none.", TapeBounds::noTokens);
        gridLines();
        workLines();
        Sentences.holds("A NAME is another WORD than slots, feeder, class, loss, profile, supplier, meter, with, smears, "
                + "read, move, total, run, the KINDS, not, and, or", TapeBounds::names);
        Sentences.holds("no two (CLASSES, SUPPLIERS, METERS) are alike", TapeBounds::namesAreNotAlike);
    }

    private static void gridLines() {
        Sentences.holds("GRID: any number of slots N ; feeder N N .. ; class NAME loss N profile N N .. ; supplier NAME ; "
                + "meter NAME KIND class NAME with NAME ; smears E ;", TapeBounds::formsOfTheGrid);
        Sentences.holds("slots 1 to 12 (ahead of it there are none)", TapeBounds::slots);
        Sentences.holds("feeder: 1 to 12 NUMBERS, 0 to 9999, of the slots from the first one on", TapeBounds::feeder);
        Sentences.holds("(those beyond the last slot count nothing, others are 0)", TapeBounds::feederBeyondTheSlots);
        Sentences.holds("class: 4 at most;", TapeBounds::fourClasses);
        Sentences.holds("loss 0 to 999;", TapeBounds::loss);
        Sentences.holds("1 to 12 NUMBERS, 0 to 99, again and again by slots", TapeBounds::profile);
        Sentences.holds("supplier: 4 at most.", TapeBounds::fourSuppliers);
        Sentences.holds("meter: 6 at most;", TapeBounds::sixMeters);
        Sentences.holds("KIND: interval, register, flat, export;", TapeBounds::kinds);
        Sentences.holds("a CLASS told, a SUPPLIER told.", TapeBounds::metersOfWhatIsTold);
        Sentences.holds("slots, feeder, smears: once each.", TapeBounds::onceEach);
    }

    private static void workLines() {
        Sentences.holds("WORK: any number of read NAME N N ; move NAME NAME N ; total N N ; run ;", TapeBounds::formsOfTheWork);
        Sentences.holds("(a METER at a place, what it says; a METER to a SUPPLIER from a slot on; of a slot 0 to 9999)",
                TapeBounds::numbersOfTheWork);
        Sentences.holds("30 lines at most.", TapeBounds::thirtyLines);
    }

    // ---- the TAPE and its TOKENS

    private static void aThousandSigns() {
        FeederShares x = new FeederShares();
        Check.due("999 signs", 999, Check.feed(x, " ".repeat(999)));
        Check.due("the thousandth", 1000, x.feed(32, 0, 0));
        Check.due("one more is left out", 1000, x.feed(32, 0, 0));
        Check.due("24 more are left out", 1000, Check.feed(x, ";".repeat(24)));
        Check.due("so the grid is empty", 0, x.grid());
        Check.due("998 signs", 998, Check.feed(x, " ".repeat(998)));
        Check.due("of three more two", 1000, Check.feed(x, "+++"));
        x.grid();
        Check.feed(x, "slots 7" + " ".repeat(992) + ";");
        Check.due("the thousandth sign counts", 0, x.grid());
        Check.due("seven slots", 7, x.count(0));
        Check.feed(x, "slots 7" + " ".repeat(993) + ";");
        Check.due("the sign behind it does not", 1 + 16 * 1000, x.grid());
    }

    private static void signsThatStand() {
        int[] stand = {10, 32, 33, 48, 59, 97, 122, 125, 126};
        int[] fallOut = {0, 1, 9, 11, 13, 31, 127, 128, 138, 160, 254, 255};
        for (int sign : stand) {
            Check.due("the sign " + sign, 1, new FeederShares().feed((long) sign << 56, 0, 0));
        }
        for (int sign : fallOut) {
            Check.due("the sign " + sign, 0, new FeederShares().feed((long) sign << 56, 0, 0));
        }
        FeederShares x = new FeederShares();
        Check.due("3 slots, with others between", 8, x.feed(0x73FF6C806F1F740BL, 0x737F200033093B0DL, 0));
        Check.due("it reads well", 0, x.grid());
        Check.due("3 slots", 3, x.count(0));
    }

    private static void readingEmptiesTheTape() {
        FeederShares x = new FeederShares();
        for (String text : new String[] {"slots 2 ;", "slots 13 ;", "nothing", ""}) {
            Check.feed(x, text);
            x.grid();
            Check.due("behind the grid «" + text + "»", 0, x.count(10));
        }
        for (String text : new String[] {"run ;", "total 2 0 ;", "nothing", ""}) {
            Check.feed(x, text);
            x.work();
            Check.due("behind the work «" + text + "»", 0, x.count(10));
        }
        Check.feed(x, "slots 5");
        x.work();
        Check.feed(x, ";");
        Check.due("what was taken is not there again", 1, x.grid());
    }

    private static void tokensAndBlanks() {
        Check.grid(0, "slots3;feeder1 2;class\na\nloss9profile1 2;supplier\n \nb;meter c flat class a with b;smears(not load);");
        Check.grid(0, "\n\n slots  \n 12   ;\n");
        Check.grid(0, " \n ");
        Check.grid(1, "@sl ots 3 ;");
        Check.grid(1, "slots 1 @2 ;");
        Check.grid(1, "@slotsfeeder 3 ;");
        Check.grid(1, "supplier a @b ;");
        Check.due("12 is one number", 12, Check.told("slots 12;").count(0));
    }

    private static void words() {
        Check.grid(0, "supplier abcdefgh ; supplier z ; supplier ijklmnop ; supplier qrstuvwx ;");
        Check.grid(1, "supplier @abcdefghi ;");
        Check.grid(1, "@suppliers a ;");
        for (String none : new String[] {"`", "{", "A", "Z", "_"}) {
            Check.grid(1, "supplier @" + none + " ;");
            Check.grid(1, "supplier a@" + none + " ;");
        }
        FeederShares x = Check.told("supplier zzzzzzzz ; supplier zzzzzzz ; supplier azzzzzzz ; supplier zzzzzzza ;");
        Check.due("all eight letters tell them apart", 4, x.count(2));
    }

    private static void numbers() {
        Check.grid(0, "feeder 0 9 00 99 000 999 0000 9999 ;");
        Check.grid(1, "feeder @00000 ;");
        Check.grid(1, "feeder @10000 ;");
        Check.grid(1, "slots 1@/ ;");
        Check.grid(1, "slots 1@: ;");
        Check.due("a letter right behind", 0, Check.told("class a loss 5profile 1;").count(0));
        Check.grid(1, "slots 5@a ;");
        Check.grid(1, "supplier a@1 ;");
        Check.due("0012 is 12", 12, Check.told("slots 0012 ;").count(0));
    }

    private static void signs() {
        Check.grid(0, "smears ( 1 ) < 2 + 3 - 4 * 5 ;");
        Check.grid(0, "smears 1 = 2 ;");
        for (String joins : new String[] {"<", "=", "+", "-", "*"}) {
            Check.grid(1, "smears 1 " + joins + " @;");
        }
        Check.grid(1, "smears ( @;");
        Check.grid(1, "smears ( 1 ) @)");
    }

    private static void noTokens() {
        for (char sign = 33; sign <= 126; sign++) {
            boolean known = "()<=+-*;".indexOf(sign) >= 0 || sign >= 'a' && sign <= 'z' || sign >= '0' && sign <= '9';
            if (!known && sign != '@') {
                Check.grid(1, "smears 1 @" + sign + " 2 ;");
            }
        }
        Check.gridFault(1, 9, "smears 1 @ 2 ;");
        Check.grid(1, "@abcdefghi");
        Check.grid(1, " @abcdefghijklmnopq 1");
        Check.grid(1, "slots @12345 ;");
        Check.grid(1, "smears 1 + @123456789 ;");
        Check.grid(1, "smears 1 @notnotnot ;");
        Check.grid(1, "smears 1 ; supplier a @abcdefghi supplier b ;");
        Check.grid(1, "smears ( 1 ) ; slots 2 @12345 supplier b ;");
    }

    // ---- the lines of a GRID

    /** Behind each TOKEN of a line nothing, or what can't stand there, is a FAULT at just that place. */
    private static void cut(FeederShares x, String ahead, String line) {
        String[] tokens = line.split(" ");
        StringBuilder text = new StringBuilder(ahead);
        for (String token : tokens) {
            if (text.length() > ahead.length()) {
                part(x, 1, text + "@");
                part(x, 1, text + " @) ;");
                part(x, 1, text + " @slots ;");
                if (!token.equals(";")) {
                    part(x, 1, text + " @;");
                }
                text.append(' ');
            }
            text.append(token);
        }
        part(x, 0, text.toString());
        part(x, 1, text + " @;");
    }

    private static void part(FeederShares x, int kind, String marked) {
        if (x == null) {
            Check.grid(kind, marked);
        } else {
            Check.work(x, kind, marked);
        }
    }

    private static void formsOfTheGrid() {
        cut(null, "", "slots 3 ;");
        cut(null, "", "feeder 3 ;");
        cut(null, "", "class a loss 3 profile 4 ;");
        cut(null, "", "supplier a ;");
        cut(null, "class a loss 3 profile 4 ; supplier b ;", "meter c flat class a with b ;");
        cut(null, "", "smears 1 ;");
        Check.due("none of them", 0, Check.told("").count(3));
        Check.grid(1, "@run ;");
        FeederShares x = Check.told("smears many ; supplier s ; class k loss 0 profile 0 ; meter m flat class k with s ; "
                + "supplier t ; feeder 7 ; meter n flat class k with t ; slots 1 ; class l loss 0 profile 0 ;");
        Check.due("in whatever order", 4, x.share(0, 0));
        Check.due("in whatever order", 3, x.share(1, 0));
        Check.due("in whatever order", 2, x.count(1));
    }

    private static void slots() {
        Check.grid(4, "slots @0 ;");
        Check.grid(4, "slots @13 ;");
        Check.grid(4, "slots @9999 ;");
        for (int many = 1; many <= 12; many++) {
            FeederShares x = Check.told("slots " + many + " ;");
            Check.due("slots", many, x.count(0));
            Check.due("the last slot", 0, x.residual(many - 1));
            Check.refused("the slot behind it", () -> x.residual(x.count(0)));
        }
        FeederShares y = Check.told("feeder 5 ; supplier s ;");
        Check.due("none without slots", 0, y.count(0));
        Check.refused("not even the first", () -> y.residual(0));
        Check.due("nothing can be the worst", -1, y.worst());
    }

    private static void feeder() {
        Check.grid(1, "feeder @;");
        FeederShares x = Check.told("slots 12 ; feeder 0 9999 2 3 4 5 6 7 8 9 10 11 ;");
        for (int slot = 0; slot < 12; slot++) {
            Check.due("slot " + slot, slot == 1 ? 9999 : slot, x.residual(slot));
        }
        Check.grid(5, "feeder 0 1 2 3 4 5 6 7 8 9 10 11 @12 ;");
        Check.grid(1, "feeder @10000 ;");
        Check.due("one is enough", 8, Check.told("slots 1 ; feeder 8 ;").residual(0));
    }

    private static void feederBeyondTheSlots() {
        FeederShares x = Check.told("slots 2 ; feeder 5 6 700 ; class k loss 0 profile 0 ; supplier s ; "
                + "meter m flat class k with s ; smears 1 ;");
        Check.refused("beyond the last slot", () -> x.residual(2));
        Check.due("it is no slot's worst", 1, x.worst());
        Check.due("nobody has it", 11, x.sum(0));
        FeederShares u = Check.told("slots 2 ; feeder 10 10 7 ; class k loss 0 profile 0 ; supplier s ; supplier t ; "
                + "meter m flat class k with s ; meter n flat class k with t ; smears 1 ;");
        Check.due("it parts nobody", -1, u.ask());
        Check.due("it is no slot that is left", 0, Check.told("slots 2 ; feeder 0 0 7 ;").days(1, 1, 1));
        FeederShares y = Check.told("slots 3 ; feeder 5 ;");
        Check.due("told", 5, y.residual(0));
        Check.due("not told", 0, y.residual(1));
        Check.due("not told", 0, y.residual(2));
        Check.due("without a feeder", 0, Check.told("slots 1 ;").residual(0));
        FeederShares z = Check.told("feeder 5 6 7 ; slots 2 ;");
        Check.due("slots that are told behind it", 6, z.residual(1));
        Check.feed(z, "feeder 8 8 8 ; slots 13 ;");
        Check.due("a fault", 4 + 16 * 21, z.grid());
        Check.feed(z, "slots 3 ; feeder 9 ;");
        Check.due("a grid behind it", 0, z.grid());
        Check.due("others are 0", 0, z.residual(1));
        Check.due("others are 0", 0, z.residual(2));
    }

    /** As many lines as NAMES; in each its NAME stands where the $ is. */
    private static String lines(String line, String names) {
        StringBuilder b = new StringBuilder();
        for (char name : names.toCharArray()) {
            b.append(line.replace('$', name));
        }
        return b.toString();
    }

    private static void fourClasses() {
        String four = lines("class $ loss 1 profile 1 ;", "abcd");
        Check.due("four", 4, Check.told(four).count(1));
        Check.grid(5, four + "@class");
        Check.grid(5, four + "@class e loss 1 profile 1 ;");
    }

    private static void loss() {
        Check.grid(4, "class a loss @1000 profile 1 ;");
        Check.grid(0, "class a loss 999 profile 1 ;");
        FeederShares x = Check.told("slots 1 ; class a loss 0 profile 0 ; class b loss 999 profile 0 ; supplier s ; "
                + "meter m flat class a with s ; meter n flat class b with s ;");
        x.read(0, 0, 500);
        x.read(1, 0, 500);
        Check.due("none is lost", 500, x.gross(0, 0));
        Check.due("999 of 1000 are lost", 999, x.gross(1, 0));
    }

    private static void profile() {
        Check.grid(1, "class a loss 1 profile @;");
        Check.grid(4, "class a loss 1 profile @100 ;");
        Check.grid(0, "class a loss 1 profile 99 ;");
        Check.grid(0, "class a loss 1 profile 1 2 3 4 5 6 7 8 9 10 11 12 ;");
        Check.grid(5, "class a loss 1 profile 1 2 3 4 5 6 7 8 9 10 11 12 @13 ;");
        FeederShares x = Check.told("slots 12 ; class a loss 0 profile 1 0 99 ; class b loss 0 profile 0 0 0 0 0 0 0 0 0 0 0 1 ; "
                + "class c loss 0 profile 7 ; supplier s ; meter m register class a with s ; meter n register class b with s ; "
                + "meter o register class c with s ;");
        for (int meter = 0; meter < 3; meter++) {
            x.read(meter, 0, 0);
            x.read(meter, 12, meter == 0 ? 400 : 12);
        }
        int[] again = {1, 0, 99};
        for (int slot = 0; slot < 12; slot++) {
            Check.due("three again and again, " + slot, again[slot % 3], x.use(0, slot));
            Check.due("the twelfth alone, " + slot, slot == 11 ? 12 : 0, x.use(1, slot));
            Check.due("one again and again, " + slot, 1, x.use(2, slot));
        }
    }

    private static void fourSuppliers() {
        String four = lines("supplier $ ;", "abcd");
        Check.due("four", 4, Check.told(four).count(2));
        Check.grid(5, four + "@supplier");
        Check.grid(5, four + "@supplier e ;");
    }

    private static void sixMeters() {
        String six = "class a loss 1 profile 1 ; supplier s ; " + lines("meter $ flat class a with s ;", "fghijk");
        Check.due("six", 6, Check.told(six).count(3));
        Check.grid(5, six + "@meter");
        Check.grid(5, six + "@meter l flat class a with s ;");
    }

    private static void kinds() {
        String[] kinds = {"interval", "register", "flat", "export"};
        for (int kind = 0; kind < kinds.length; kind++) {
            FeederShares x = Check.told("class a loss 1 profile 1 ; supplier s ; meter m " + kinds[kind] + " class a with s ;");
            Check.due(kinds[kind], kind, x.meter(0, 0));
        }
        for (String none : new String[] {"solar", "class", "a", "5", "intervals", ";"}) {
            Check.grid(1, "class a loss 1 profile 1 ; supplier s ; meter m @" + none + " class a with s ;");
        }
    }

    private static void metersOfWhatIsTold() {
        Check.grid(2, "supplier s ; meter m flat class @a with s ; class a loss 0 profile 0 ;");
        Check.grid(2, "class a loss 0 profile 0 ; meter m flat class a with @s ; supplier s ;");
        Check.grid(2, BASE + "meter oo flat class @ss with ss ;");
        Check.grid(2, BASE + "meter oo flat class @mm with ss ;");
        Check.grid(2, BASE + "meter oo flat class @oo with ss ;");
        Check.grid(2, BASE + "meter oo flat class kk with @kk ;");
        Check.grid(2, BASE + "meter oo flat class kk with @mm ;");
        Check.grid(0, BASE + "meter oo flat class kk with ss ;");
    }

    private static void onceEach() {
        Check.grid(3, "slots 2 ; @slots 2 ;");
        Check.grid(3, "slots 2 ; supplier s ; @slots");
        Check.grid(3, "feeder 2 ; @feeder 2 ;");
        Check.grid(3, "feeder 2 ; supplier s ; @feeder");
        Check.grid(3, "smears 2 ; @smears 2 ;");
        Check.grid(3, "smears 2 ; supplier s ; @smears");
        FeederShares x = new FeederShares();
        for (int grid = 0; grid < 2; grid++) {
            Check.feed(x, "slots 2 ; feeder 2 ; smears 2 ;");
            Check.due("once in each grid", 0, x.grid());
        }
    }

    // ---- the lines of a WORK

    private static void formsOfTheWork() {
        FeederShares x = Check.told(BASE);
        cut(x, "", "read mm 0 0 ;");
        cut(x, "", "move mm ss 0 ;");
        cut(x, "", "total 0 0 ;");
        cut(x, "", "run ;");
        Check.work(x, 0, "");
        Check.due("none of them", 0, x.count(7));
        Check.work(x, 1, "@slots 3 ;");
        Check.work(x, 0, "run;run;total 0 5;move mm ss 2;read mm 3 9999;run;read nn 2 999;");
        Check.due("in whatever order", 7, x.count(7));
    }

    private static void numbersOfTheWork() {
        FeederShares x = Check.told("slots 2 ; feeder 9 9 ; class kk loss 0 profile 0 ; supplier ss ; supplier tt ; "
                + "meter mm register class kk with ss ; meter nn flat class kk with ss ; smears 1 ;");
        Check.work(x, 0, "total 0 0 ; total 1 9999 ;");
        Check.due("0 and 9999", 9999, x.judged(2));
        Check.work(x, 1, "total 0 @10000 ;");
        Check.work(x, 0, "move mm tt 1 ; move nn tt 0 ;");
        Check.due("the work as it was told", 18, x.judged(2));
        Check.work(x, 0, "read mm 2 9999 ; read nn 1 999 ;");
        Check.due("two lines", 2, x.count(7));
        Check.due("a slot with more used than was brought", 18, x.judged(2));
    }

    private static void thirtyLines() {
        FeederShares x = Check.told(BASE);
        Check.work(x, 0, "run;".repeat(30));
        Check.due("thirty", 30, x.count(7));
        Check.work(x, 5, "run;".repeat(30) + "@run;");
        Check.work(x, 5, "run;".repeat(30) + "@read");
        Check.due("the thirty stay", 30, x.count(7));
        Check.work(x, 0, "run;".repeat(29));
        Check.due("twenty-nine", 29, x.count(7));
    }

    // ---- NAMES

    private static void names() {
        FeederShares x = Check.told(BASE);
        for (String word : KEPT) {
            Check.grid(1, "class @" + word + " loss 1 profile 1 ;");
            Check.grid(1, "supplier @" + word + " ;");
            Check.grid(1, "meter @" + word + " flat class a with b ;");
            Check.grid(1, BASE + "meter oo flat class @" + word + " with ss ;");
            Check.grid(1, BASE + "meter oo flat class kk with @" + word + " ;");
            Check.work(x, 1, "read @" + word + " 0 0 ;");
            Check.work(x, 1, "move @" + word + " ss 0 ;");
            Check.work(x, 1, "move mm @" + word + " 0 ;");
        }
        for (String word : new String[] {"load", "slot", "many", "a", "losses", "classes", "nots", "an", "o", "runs", "grid"}) {
            Check.grid(0, "class " + word + " loss 1 profile 1 ;");
            Check.grid(0, "supplier " + word + " ;");
            Check.grid(0, BASE + "meter " + word + " flat class kk with ss ;");
        }
        FeederShares y = Check.told("slots 1 ; feeder 8 ; class load loss 0 profile 0 ; supplier slot ; "
                + "meter many flat class load with slot ; smears many ;");
        Check.due("facts that are names, too", 8, y.share(0, 0));
        Check.work(y, 0, "read many 0 1 ; move many slot 0 ;");
    }

    private static void namesAreNotAlike() {
        for (String told : new String[] {"kk", "ss", "mm", "nn"}) {
            Check.grid(3, BASE + "class @" + told + " loss 1 profile 1 ;");
            Check.grid(3, BASE + "supplier @" + told + " ;");
            Check.grid(3, BASE + "meter @" + told + " flat class kk with ss ;");
        }
        Check.grid(0, BASE + "class k loss 1 profile 1 ; supplier s ; meter m flat class kk with ss ;");
        FeederShares x = Check.told(BASE);
        Check.feed(x, BASE);
        Check.due("the names of the grid ahead are free", 0, x.grid());
        Check.due("one is longer", 4, Check.told("supplier a ; supplier aa ; supplier aaa ; supplier aaaa ;").count(2));
        for (int place = 0; place < 8; place++) {
            for (char letter = 'b'; letter <= 'z'; letter++) {
                String other = "aaaaaaaa".substring(0, place) + letter + "aaaaaaaa".substring(place + 1);
                Check.grid(0, "supplier aaaaaaaa ; class " + other + " loss 1 profile 1 ;");
            }
        }
    }
}
