/** Terms 2 of the document, on: USE, GROSS, LOAD, RESIDUAL, what is SHARED OUT and SMEARED, LEFT, NET, SHARE. */
final class UseBounds {
    private static final String FOUR = HandBounds.FOUR;

    private UseBounds() {
    }

    static void all() {
        use();
        shared();
    }

    private static void use() {
        Sentences.holds("USE of a METER in a slot: interval: what it says there, else what it says in the last slot ahead "
                + "in which it was READ, 0 if there is none.", () -> asRead(0, 1));
        Sentences.holds("export: that, less than 0.", () -> asRead(3, -1));
        Sentences.holds("flat: what it says there, or in the last slot ahead in which it was READ, 0 if there is none.", () -> asRead(2, 1));
        Sentences.holds("register: places lie ahead of slots (the last one behind the last slot)", UseBounds::placesOfRegisters);
        Sentences.holds("of the last place at or ahead of the slot's, and the first one behind it, at which it was READ, "
                + "the ADVANCE: what it says at the latter less what it says at the former", UseBounds::advance);
        Sentences.holds("10000 more if that is less than 0", UseBounds::turnedRegister);
        Sentences.holds("it is CUT by the CLASS's profile over the slots between", UseBounds::cutByProfile);
        Sentences.holds("over the slots between (each 1, if these are all 0)", UseBounds::weightlessProfile);
        Sentences.holds("the slots up to one, it, too, have as much of it as their profile's part of all of it, together, cut",
                UseBounds::cutTogether);
        Sentences.holds("0 if one of these places is none.", UseBounds::placeIsNone);
        Sentences.holds("GROSS: USE times 1000 and loss, together, divided by 1000, cut towards 0.", UseBounds::gross);
        Sentences.holds("LOAD of a CLASS in a slot: GROSS of its METERS, together.", UseBounds::load);
        Sentences.holds("RESIDUAL of a slot: what the feeder brought less GROSS of all METERS.", UseBounds::residual);
    }

    private static void shared() {
        Sentences.holds("SHARED OUT is a number by WEIGHTS (none less than 0), in long numbers", UseBounds::longNumbers);
        Sentences.holds("without its sign, times each WEIGHT, divided by all of these, cut", UseBounds::cutParts);
        Sentences.holds("what is left 1 by 1 to those of which the most was cut off, of equal ones the first", UseBounds::whatIsLeft);
        Sentences.holds("then with its sign. SMEAR", UseBounds::withItsSign);
        Sentences.holds("SMEAR: the RESIDUAL SHARED OUT to CLASSES by the E of smears (0 at least, 9999 at most)", UseBounds::weightsOfClasses);
        Sentences.holds("of each CLASS to its METERS by their GROSS without the sign (each 1, if these are all 0).", UseBounds::weightsOfMeters);
        Sentences.holds("LEFT: the RESIDUAL, if all WEIGHTS of CLASSES that have METERS are 0", UseBounds::weightless);
        Sentences.holds("(0 is the WEIGHT of one that has none)", UseBounds::classWithoutMeters);
        Sentences.holds("or there are no CLASSES, else 0; then nothing is SMEARED.", UseBounds::noClasses);
        Sentences.holds("NET of a METER: GROSS and what is SMEARED to it.", UseBounds::net);
        Sentences.holds("SHARE of a SUPPLIER in a slot: NET of the METERS that are with it then, together.", UseBounds::share);
        Sentences.holds("ACCOUNT of a SUPPLIER and a CLASS: NET of METERS of that CLASS in slots in which they are with that "
                + "SUPPLIER, together.", UseBounds::account);
    }

    // ---- USE

    private static void asRead(int meter, int sign) {
        FeederShares x = Check.told(FOUR);
        int[][] reads = {{1, 7}, {3, 9}, {2, 0}, {0, 999}, {1, 1}};
        int[][] due = {{0, 7, 7, 7}, {0, 7, 7, 9}, {0, 7, 0, 9}, {999, 7, 0, 9}, {999, 1, 0, 9}};
        for (int slot = 0; slot < 4; slot++) {
            Check.due("nothing is read", 0, x.use(meter, slot));
        }
        for (int i = 0; i < reads.length; i++) {
            x.read(meter, reads[i][0], reads[i][1]);
            for (int slot = 0; slot < 4; slot++) {
                Check.due("reading " + i + ", slot " + slot, due[i][slot] * sign, x.use(meter, slot));
            }
        }
        FeederShares y = Check.told(FOUR);
        y.read(meter, 0, 5);
        Check.due("up to the last slot", 5 * sign, y.use(meter, 3));
        Check.due("not another meter", 0, y.use((meter + 1) % 4, 3));
    }

    private static FeederShares register(String profile, int... read) {
        FeederShares x = Check.told("slots 4 ; class k loss 0 profile " + profile + " ; supplier s ; meter m register class k with s ;");
        for (int i = 0; i + 1 < read.length; i += 2) {
            Check.due("read at " + read[i], -1, x.read(0, read[i], read[i + 1]));
        }
        return x;
    }

    private static void uses(String what, FeederShares x, int... due) {
        for (int slot = 0; slot < due.length; slot++) {
            Check.due(what + ", slot " + slot, due[slot], x.use(0, slot));
        }
    }

    private static void placesOfRegisters() {
        uses("place 0 is ahead of slot 0", register("1", 0, 1, 1, 4), 3, 0, 0, 0);
        uses("place 4 is behind slot 3", register("1", 3, 10, 4, 25), 0, 0, 0, 15);
        uses("place 2 lies between", register("1", 1, 0, 2, 5, 3, 7), 0, 5, 2, 0);
        Check.due("there is no place 5", -2, register("1").read(0, 5, 0));
    }

    private static void advance() {
        uses("the nearest places", register("1", 0, 100, 1, 110, 3, 130, 4, 131), 10, 10, 10, 1);
        uses("at the slot's own place", register("1", 0, 0, 2, 2, 4, 6), 1, 1, 2, 2);
        uses("no advance", register("1", 0, 77, 4, 77), 0, 0, 0, 0);
        uses("the most", register("1", 2, 0, 3, 9999), 0, 0, 9999, 0);
    }

    private static void turnedRegister() {
        uses("by one", register("1", 0, 9999, 1, 0), 1);
        uses("by all but one", register("1", 0, 1, 1, 0), 9999);
        uses("not when it is 0", register("1", 0, 5, 1, 5), 0);
        uses("over slots", register("1", 0, 9998, 4, 6), 2, 2, 2, 2);
        FeederShares x = register("1", 0, 9998, 4, 6);
        int[] due = {9998, 0, 2, 4, 6};
        for (int place = 0; place <= 4; place++) {
            Check.due("it stands at", due[place], x.stands(0, place));
        }
    }

    private static void cutByProfile() {
        uses("by 1, 2, 1, 1", register("1 2 1", 0, 100, 4, 180), 16, 32, 16, 16);
        uses("over the slots between alone", register("1 2 1", 1, 0, 3, 30), 0, 20, 10, 0);
        uses("a slot without weight", register("0 5", 0, 0, 4, 10), 0, 5, 0, 5);
        FeederShares x = Check.told("slots 2 ; class j loss 0 profile 1 ; class k loss 0 profile 3 1 ; supplier s ; meter m register class k with s ;");
        x.read(0, 0, 0);
        x.read(0, 2, 8);
        uses("its own class's", x, 6, 2);
    }

    private static void weightlessProfile() {
        uses("all 0", register("0", 0, 0, 4, 8), 2, 2, 2, 2);
        uses("all 0 between", register("0 0 5", 0, 0, 2, 6, 4, 16), 3, 3, 10, 0);
        uses("not all 0 between", register("0 0 5", 0, 0, 3, 6), 0, 0, 6, 0);
        uses("one slot of weight 0", register("0 0 5", 1, 0, 2, 6), 0, 6, 0, 0);
        uses("a third each of 4", register("0", 1, 0, 4, 4), 0, 1, 1, 2);
        uses("half each of 5", register("0", 2, 7, 4, 12), 0, 0, 2, 3);
    }

    private static void cutTogether() {
        uses("a quarter each of 1", register("1", 0, 0, 4, 1), 0, 0, 0, 1);
        uses("a quarter each of 3", register("1", 0, 0, 4, 3), 0, 1, 1, 1);
        uses("a quarter each of 6", register("1", 0, 0, 4, 6), 1, 2, 1, 2);
        uses("by 1, 2, 1, 1 of 9", register("1 2 1", 0, 0, 4, 9), 1, 4, 2, 2);
        uses("nothing is lost", register("99 98 97 96", 0, 0, 4, 9999), 2538, 2512, 2487, 2462);
    }

    private static void placeIsNone() {
        uses("none behind", register("1", 0, 50), 0, 0, 0, 0);
        uses("none ahead", register("1", 4, 50), 0, 0, 0, 0);
        uses("none at either end", register("1", 1, 50, 3, 54), 0, 2, 2, 0);
        uses("none at all", register("1"), 0, 0, 0, 0);
        FeederShares x = Check.told("slots 4 ; class j loss 0 profile 99 ; class k loss 0 profile 1 ; supplier s ; "
                + "meter m register class k with s ; meter n register class j with s ; meter o register class k with s ;");
        x.read(1, 0, 9999);
        x.read(1, 4, 9998);
        x.read(0, 2, 1);
        x.read(2, 3, 1);
        for (int slot = 0; slot < 4; slot++) {
            Check.due("another meter's places are not its own", 0, x.use(0, slot));
            Check.due("another meter's places are not its own", 0, x.use(2, slot));
        }
    }

    private static void gross() {
        FeederShares x = Check.told("slots 1 ; class k loss 999 profile 0 ; class j loss 1 profile 0 ; class i loss 0 profile 0 ; supplier s ; "
                + "meter a interval class k with s ; meter b export class k with s ; meter c register class k with s ; "
                + "meter d flat class j with s ; meter e export class i with s ;");
        int[][] due = {{0, 1, 1}, {0, 2, 3}, {0, 0, 0}, {0, 999, 1997}, {1, 1, -1}, {1, 2, -3}, {1, 999, -1997}, {3, 1, 1}, {3, 999, 999},
            {4, 999, -999}};
        for (int[] d : due) {
            x.read(d[0], 0, d[1]);
            Check.due("gross of " + d[1], d[2], x.gross(d[0], 0));
        }
        x.read(2, 0, 1);
        x.read(2, 1, 0);
        Check.due("the most", 19988, x.gross(2, 0));
    }

    private static void load() {
        FeederShares x = Check.told(FOUR);
        Check.due("nothing", 0, x.load(0, 0));
        x.read(0, 0, 20);
        x.read(1, 0, 0);
        x.read(1, 4, 80);
        x.read(2, 0, 4);
        x.read(3, 0, 5);
        Check.due("22 and 17", 39, x.load(0, 0));
        Check.due("4 less 5", -1, x.load(1, 0));
        Check.due("a class without meters", 0, Check.told("slots 1 ; class k loss 0 profile 0 ;").load(0, 0));
    }

    private static void residual() {
        FeederShares x = Check.told(FOUR);
        Check.due("all of it", 100, x.residual(0));
        x.read(0, 0, 20);
        Check.due("less what was used", 78, x.residual(0));
        x.read(3, 0, 5);
        Check.due("more by what was exported", 83, x.residual(0));
        Check.due("less than nothing", -17, x.residual(3));
        x.total(3, 17);
        Check.due("nothing", 0, x.residual(3));
    }

    // ---- what is SHARED OUT

    /** CLASSES weigh as told, with a METER each; what is less than nothing was used by one that weighs nothing. */
    private static void shares(int number, int[] weights, int... due) {
        StringBuilder grid = new StringBuilder("slots 1 ; class z loss 0 profile 0 ; supplier s ; meter zz register class z with s ; smears loss ; ");
        for (int i = 0; i < weights.length; i++) {
            char name = (char) ('a' + i);
            grid.append("class ").append(name).append(" loss ").append(weights[i]).append(" profile 0 ; meter m").append(name)
                    .append(" flat class ").append(name).append(" with s ; ");
        }
        FeederShares x = Check.told(grid.toString());
        x.total(0, Math.max(0, number));
        x.read(0, 0, 0);
        x.read(0, 1, Math.max(0, -number));
        Check.due("what is shared out", number, x.residual(0));
        for (int i = 0; i < due.length; i++) {
            Check.due(number + ", part " + i, due[i], x.smear(i + 1, 0));
        }
        Check.due("a class that weighs nothing", 0, x.smear(0, 0));
    }

    private static void longNumbers() {
        StringBuilder grid = new StringBuilder("slots 1 ; class k loss 999 profile 0 ; supplier s ; ");
        for (char name = 'a'; name <= 'f'; name++) {
            grid.append("meter ").append(name).append(" register class k with s ; ");
        }
        FeederShares x = Check.told(grid.toString());
        for (int meter = 0; meter < 6; meter++) {
            x.read(meter, 0, 0);
            x.read(meter, 1, 9999);
        }
        // 119928 times 19988 is beyond an int
        Check.due("less than nothing", -119928, x.residual(0));
        Check.due("by 9999 alone", -119928, x.smear(0, 0));
        for (int meter = 0; meter < 6; meter++) {
            Check.due("a sixth each", 0, x.net(meter, 0));
        }
        x.total(0, 9999);
        Check.due("9999 less", -109929, x.smear(0, 0));
        Check.due("1666.5 each, the first ones less", 1666, x.net(0, 0));
        Check.due("1666.5 each, the last ones more", 1667, x.net(5, 0));
        Check.due("of weights less than 0 there is none", 0, Check.told("slots 1 ; feeder 5 ; class k loss 0 profile 0 ; supplier s ; "
                + "meter m flat class k with s ; smears 0 - 5 ;").smear(0, 0));
    }

    private static void cutParts() {
        shares(12, new int[] {1, 2, 3}, 2, 4, 6);
        shares(0, new int[] {1, 2, 3}, 0, 0, 0);
        shares(9, new int[] {5, 0, 4}, 5, 0, 4);
        shares(9999, new int[] {998, 1, 0}, 9989, 10, 0);
        shares(7, new int[] {3}, 7);
    }

    private static void whatIsLeft() {
        int[] by = {1, 2, 4};
        shares(10, by, 1, 3, 6);
        shares(9, by, 1, 3, 5);
        shares(8, by, 1, 2, 5);
        int[] equal = {1, 1, 1};
        shares(1, equal, 1, 0, 0);
        shares(2, equal, 1, 1, 0);
        shares(3, equal, 1, 1, 1);
        shares(5, equal, 2, 2, 1);
        shares(1, new int[] {0, 1, 1}, 0, 1, 0);
        shares(1, new int[] {1, 2, 2}, 0, 1, 0);
        shares(3, new int[] {1, 2, 2}, 1, 1, 1);
        shares(2, new int[] {1, 2, 2}, 0, 1, 1);
        FeederShares x = Check.told("slots 1 ; feeder 18 ; class a loss 0 profile 0 ; class b loss 0 profile 0 ; supplier s ; "
                + "meter m flat class b with s ; meter n flat class b with s ; meter o flat class b with s ; meter p flat class a with s ; smears 1 ;");
        x.read(0, 0, 5);
        x.read(1, 0, 4);
        x.read(2, 0, 4);
        // 5 by 1 and 1: 2.5 each; b's 2 by 5, 4 and 4: 0.76, 0.61 and 0.61
        nets("asked once", x, 6, 5, 4, 3);
        nets("what was cut off from meters is not cut off from classes", x, 6, 5, 4, 3);
    }

    private static void withItsSign() {
        shares(-10, new int[] {1, 2, 4}, -1, -3, -6);
        shares(-11, new int[] {1, 1, 1}, -4, -4, -3);
        shares(-1, new int[] {1, 1, 1}, -1, 0, 0);
        shares(-12, new int[] {1, 2, 3}, -2, -4, -6);
    }

    private static void weightsOfClasses() {
        String grid = "slots 1 ; feeder 9999 ; class a loss 0 profile 0 ; class b loss 1 profile 0 ; supplier s ; "
                + "meter m flat class a with s ; meter n flat class b with s ; ";
        Check.due("9999 and 10000 are alike: of equal ones the first has more", 5000, Check.told(grid + "smears 9999 + loss ;").smear(0, 0));
        Check.due("9998 is less than 9999", 4999, Check.told(grid + "smears 9998 + loss ;").smear(0, 0));
        Check.due("9999 * 9999 is 9999, too", 5000, Check.told(grid + "smears 9999 * (1 + loss * 9998) ;").smear(0, 0));
        Check.due("-1 is 0", 0, Check.told(grid + "smears loss * 2 - 1 ;").smear(0, 0));
        Check.due("and the other has all", 9999, Check.told(grid + "smears loss * 2 - 1 ;").smear(1, 0));
        Check.due("what wraps below 0 is 0", 0, Check.told(grid + "smears 1 + 9999 * 9999 * 22 * (loss = 0) ;").smear(0, 0));
        Check.due("0 is 0", 9999, Check.told(grid + "smears loss ;").smear(1, 0));
    }

    private static void weightsOfMeters() {
        FeederShares x = Check.told("slots 1 ; feeder 7 ; class p loss 0 profile 1 ; class q loss 0 profile 1 ; supplier s ; "
                + "meter a interval class p with s ; meter z flat class q with s ; meter b interval class p with s ; "
                + "meter c export class p with s ; smears many - 1 ;");
        nets("each 1", x, 3, 0, 2, 2);
        x.read(0, 0, 1);
        nets("the one that used anything", x, 1 + 6, 0, 0, 0);
        x.read(3, 0, 3);
        nets("9 by 1, 0, 3: 2.25 and 6.75", x, 1 + 2, 0, 0, -3 + 7);
        x.read(1, 0, 7);
        nets("2 by 1, 0, 3: 0.5 and 1.5; another class's use is no weight", x, 1 + 1, 7, 0, -3 + 1);
    }

    private static void nets(String what, FeederShares x, int... due) {
        for (int meter = 0; meter < due.length; meter++) {
            Check.due(what + ", meter " + meter, due[meter], x.net(meter, 0));
        }
    }

    private static void weightless() {
        FeederShares x = Check.told("slots 2 ; feeder 10 4 ; class k loss 0 profile 0 ; class l loss 0 profile 0 ; supplier s ; "
                + "meter m flat class k with s ; meter n export class l with s ; smears slot ;");
        x.read(0, 0, 3);
        Check.due("nothing is smeared", 0, x.smear(0, 0));
        Check.due("NET is GROSS", 3, x.net(0, 0));
        Check.due("the residual is left", 7, x.proof(0));
        Check.due("in slot 1 it is smeared", 1, x.smear(0, 1));
        Check.due("none is left", 0, x.proof(1));
        x.read(0, 0, 25);
        Check.due("less than nothing is left, too", -15, x.proof(0));
    }

    private static void classWithoutMeters() {
        FeederShares x = Check.told("slots 1 ; feeder 10 ; class e loss 0 profile 0 ; class k loss 0 profile 0 ; supplier s ; "
                + "meter m flat class k with s ; smears 5 ;");
        Check.due("it has nothing", 0, x.smear(0, 0));
        Check.due("the other has all", 10, x.smear(1, 0));
        FeederShares y = Check.told("slots 1 ; feeder 10 ; class e loss 0 profile 0 ; class k loss 0 profile 0 ; supplier s ; "
                + "meter m flat class k with s ; smears (many = 0) * 5 ;");
        Check.due("nothing is smeared", 0, y.smear(0, 0));
        Check.due("nothing is smeared", 0, y.smear(1, 0));
        Check.due("all is left", 10, y.proof(0));
    }

    private static void noClasses() {
        FeederShares x = Check.told("slots 1 ; feeder 10 ; supplier s ; smears 5 ;");
        Check.due("all is left", 10, x.proof(0));
        Check.due("nobody has it", 0, x.share(0, 0));
        FeederShares y = Check.told("slots 1 ; feeder 10 ; class k loss 0 profile 0 ; supplier s ; meter m flat class k with s ; smears 5 ;");
        Check.due("else nothing is left", 0, y.proof(0));
        Check.due("but smeared", 10, y.smear(0, 0));
    }

    private static void net() {
        FeederShares x = HandBounds.fourRead();
        for (int slot = 0; slot < 4; slot++) {
            for (int kind = 0; kind < 2; kind++) {
                int nets = x.net(2 * kind, slot) + x.net(2 * kind + 1, slot);
                Check.due("gross of both and what is smeared to their class", x.load(kind, slot) + x.smear(kind, slot), nets);
            }
        }
        Check.due("22 and 37 of 66", 59, x.net(0, 0));
        Check.due("10 and less", 9, x.net(2, 1));
        Check.due("nothing is smeared to it", -5, x.net(3, 0));
        Check.due("all of it is taken back", 0, x.net(1, 3));
    }

    private static void share() {
        FeederShares x = Check.told(HandBounds.TWO + "supplier u ;");
        Check.due("s", 5, x.share(0, 0));
        Check.due("t", 5, x.share(1, 0));
        Check.due("without meters", 0, x.share(2, 0));
        x.move(1, 0, 1);
        Check.due("t then", 5, x.share(1, 0));
        Check.due("t from then on", 0, x.share(1, 1));
        Check.due("both with s", 20, x.share(0, 1));
    }

    private static void account() {
        FeederShares x = Check.told(HandBounds.TWO + "class l loss 0 profile 0 ; meter o flat class l with s ;");
        x.move(1, 0, 1);
        x.run();
        // by halves to the classes: 5 and 5, 10 and 10; k to m and n: 3 and 2, 5 and 5
        Check.due("m in both slots, n in slot 1", 3 + 5 + 5, x.owes(0, 0));
        Check.due("n in slot 0", 2, x.owes(1, 0));
        Check.due("o in both slots", 15, x.owes(0, 1));
        Check.due("none", 0, x.owes(1, 1));
    }
}
