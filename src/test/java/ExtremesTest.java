import java.util.NoSuchElementException;

/** Whatever is asked in whatever state, nothing but the document's exception comes out. */
public final class ExtremesTest {
    private static final int[] NUMBERS = {Integer.MIN_VALUE, Integer.MIN_VALUE + 1, -10000, -2, -1, 0, 1, 2, 3, 4, 5, 6, 7, 11,
        12, 13, 60, 999, 1000, 9999, 10000, 1 << 28, 1 << 30, Integer.MAX_VALUE};
    private static final String[] GRIDS = {"", "slots 12 ;", "supplier s ; slots 1 ;",
        "class k loss 999 profile 99 ; supplier s ; meter r register class k with s ; meter f flat class k with s ;",
        "slots 12 ; feeder 9999 9999 9999 9999 9999 9999 9999 9999 9999 9999 9999 9999 ; class a loss 999 profile 99 0 ; "
            + "class b loss 0 profile 0 ; class c loss 500 profile 1 2 3 4 5 6 7 8 9 10 11 12 ; class d loss 1 profile 5 ; "
            + "supplier s ; supplier t ; supplier u ; supplier v ; meter e interval class a with s ; meter f register class b with t ; "
            + "meter g register class c with u ; meter h export class d with v ; meter i flat class a with s ; meter j register class a with u ; "
            + "smears load * 9999 * 9999 + not (slot - loss * (many < 3 or load = 2) * not (load * load * load)) ;"};

    private final Dice dice = new Dice(77);
    private FeederShares x = new FeederShares();
    private int calls;

    public static void main(String[] args) {
        ExtremesTest test = new ExtremesTest();
        for (int turn = 0; turn < 400; turn++) {
            test.use(GRIDS[turn % GRIDS.length]);
        }
        System.out.println(test.calls + " calls ended as they may");
    }

    private void use(String grid) {
        x = new FeederShares();
        Check.feed(x, grid);
        if (x.grid() != 0) {
            System.out.println("the grid is wrong: " + grid);
            System.exit(1);
        }
        for (int i = 0; i < 450; i++) {
            int a = number();
            int b = number();
            int c = number();
            int d = number();
            int name = dice.below(41);
            try {
                call(name, a, b, c, d);
            } catch (NoSuchElementException e) {
                if (!mayRefuse(name)) {
                    System.out.println("call " + name + " must not throw");
                    System.exit(1);
                }
            }
            calls++;
        }
    }

    private int number() {
        return dice.once(2) ? dice.below(6) : dice.once(3) ? dice.below(1000) : NUMBERS[dice.below(NUMBERS.length)];
    }

    private static boolean mayRefuse(int name) {
        return name >= 11 && name <= 19 || name == 22 || name >= 25 && name <= 27 || name >= 29 && name <= 32 || name == 38;
    }

    private void call(int name, int a, int b, int c, int d) {
        switch (name) {
            case 0: x.feed((long) a << 32 | b, (long) c << 32 | d, a); break;
            case 1: if (dice.once(30)) { x.grid(); } break;
            case 2: x.work(); break;
            case 3: x.meter(a, b); break;
            case 4: x.with(a, b); break;
            case 5: x.says(a, b); break;
            case 6: x.read(a, b, c); break;
            case 7: x.move(a, b, c); break;
            case 8: x.total(a, b); break;
            case 9: x.run(); break;
            case 10: x.undo(); break;
            case 11: x.judged(a); break;
            case 12: x.use(a, b); break;
            case 13: x.gross(a, b); break;
            case 14: x.load(a, b); break;
            case 15: x.residual(a); break;
            case 16: x.smear(a, b); break;
            case 17: x.net(a, b); break;
            case 18: x.share(a, b); break;
            case 19: x.sum(a); break;
            case 20: x.gaps(a); break;
            case 21: x.stands(a, b); break;
            case 22: x.proof(a); break;
            case 23: x.worst(); break;
            case 24: x.lost(); break;
            case 25: x.settled(a, b, c); break;
            case 26: x.difference(a, b, c); break;
            case 27: x.drift(a); break;
            case 28: x.accounts(); break;
            case 29: x.account(a, b); break;
            case 30: x.owes(a, b); break;
            case 31: x.swing(a, b, c, d); break;
            case 32: x.gains(a, b); break;
            case 33: x.bears(a); break;
            case 34: x.heaviest(); break;
            case 35: x.see(a, b, c < 3); break;
            case 36: x.who(); break;
            case 37: x.ask(); break;
            case 38: x.days(a, b, c); break;
            case 39: x.mark(a, b < 3); break;
            default: x.count(a); break;
        }
    }
}
