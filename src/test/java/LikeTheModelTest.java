import java.util.NoSuchElementException;

/** The class and the model are called alike, at random, and must answer alike. */
public final class LikeTheModelTest {
    private static final long THROWN = Long.MIN_VALUE;
    // What later calls answer is free.
    private static final int MOST_CALLS = 512;

    public static void main(String[] args) {
        int runs = args.length > 0 ? Integer.parseInt(args[0]) : 3000;
        int first = args.length > 1 ? Integer.parseInt(args[1]) : 1;
        for (int seed = first; seed < first + runs; seed++) {
            new LikeTheModelTest(seed).play();
        }
        System.out.println(runs + " runs of calls were answered alike");
    }

    private final int seed;
    private final Dice dice;
    private final Tapes tapes;
    private final FeederShares x = new FeederShares();
    private final Model y = new Model();
    private final StringBuilder told = new StringBuilder();
    private int calls;

    private LikeTheModelTest(int seed) {
        this.seed = seed;
        dice = new Dice(seed);
        tapes = new Tapes(dice);
    }

    private void play() {
        boolean told = dice.once(40);
        while (calls < MOST_CALLS) {
            if (!told || dice.once(120)) {
                feed(tapes.grid());
                told |= call(1, 0, 0, 0, 0) == 0;
                tellAll();
            } else if (dice.once(60)) {
                feed(tapes.work());
                call(2, 0, 0, 0, 0);
                for (int what = 0; what < 3; what++) {
                    call(13, what, 0, 0, 0);
                }
            } else if (dice.once(50)) {
                call(0, (int) dice.next(), 0, 0, 0);
            } else {
                anyCall();
            }
        }
    }

    private void tellAll() {
        for (int what = 0; what <= 10; what++) {
            call(42, what, 0, 0, 0);
        }
    }

    private void feed(String text) {
        byte[] bytes = new byte[(text.length() + 23) / 24 * 24];
        for (int i = 0; i < text.length(); i++) {
            bytes[i] = (byte) text.charAt(i);
        }
        java.nio.ByteBuffer b = java.nio.ByteBuffer.wrap(bytes);
        while (b.remaining() > 0 && calls < MOST_CALLS) {
            long one = b.getLong();
            long two = b.getLong();
            long three = b.getLong();
            calls++;
            same("feed", x.feed(one, two, three), y.feed(one, two, three));
        }
    }

    private int index(int usual) {
        return dice.once(40) ? dice.from(-2, 14) : dice.once(200) ? (int) dice.next() : dice.below(Math.max(1, usual));
    }

    private void anyCall() {
        int m = index(y.count(3));
        int i = index(y.count(2));
        int k = index(y.count(1));
        int s = index(y.count(0));
        int p = index(y.count(0) + 1);
        int v = dice.once(40) ? dice.from(-10001, 10001) : dice.below(dice.once(3) ? 10000 : dice.once(2) ? 100 : 1000);
        int name = dice.below(10) < 4 ? dice.from(8, 11) : dice.from(3, 42);
        switch (name) {
            case 5: call(5, m, index(3), 0, 0); break;
            case 6: call(6, m, s, 0, 0); break;
            case 7: call(7, m, p, 0, 0); break;
            case 8: call(8, m, p, v, 0); break;
            case 9: call(9, m, i, s, 0); break;
            case 10: call(10, s, v, 0, 0); break;
            case 11: if (dice.once(4)) { call(11, 0, 0, 0, 0); } break;
            case 12: call(12, 0, 0, 0, 0); break;
            case 13: call(13, index(3), 0, 0, 0); break;
            case 16: case 18: call(name, k, s, 0, 0); break;
            case 20: call(20, i, s, 0, 0); break;
            case 17: case 24: call(name, s, 0, 0, 0); break;
            case 21: case 29: call(name, i, 0, 0, 0); break;
            case 23: call(23, m, p, 0, 0); break;
            case 27: case 28: call(name, index(4), i, s, 0); break;
            case 31: call(31, index(8), index(3), 0, 0); break;
            case 32: call(32, i, k, 0, 0); break;
            case 33: call(33, m, p, v, i); break;
            case 34: call(34, m, i, 0, 0); break;
            case 37: call(37, s, dice.once(3) ? dice.from(-50, 200) : dice.from(-10001, 10001), dice.below(2), 0); break;
            case 40: call(40, dice.once(20) ? dice.from(-1, 10001) : dice.below(10000), dice.once(20) ? dice.from(-1, 62) : dice.from(1, 60), index(3), 0); break;
            case 41: call(41, index(2), dice.below(3) == 0 ? 1 : 0, 0, 0); break;
            case 42: call(42, dice.from(-1, 11), 0, 0, 0); break;
            default: call(name, m, s, 0, 0); break;
        }
    }

    private long call(int name, int a, int b, int c, int d) {
        if (calls >= MOST_CALLS) {
            return 0;
        }
        calls++;
        told.append(name).append('(').append(a).append(' ').append(b).append(' ').append(c).append(' ').append(d).append(") ");
        long want = due(name, a, b, c, d);
        same(name + "(" + a + ", " + b + ", " + c + ", " + d + ")", answer(name, a, b, c, d), want);
        return want;
    }

    private void same(String call, long got, long want) {
        if (got != want) {
            System.out.println("seed " + seed + ", call " + calls + ": " + call + " answered " + got + ", due is " + want);
            System.out.println(told);
            System.exit(1);
        }
    }

    private long answer(int name, int a, int b, int c, int d) {
        try {
            switch (name) {
                case 0: return x.feed(a * 7919L * 65537L * 31L, ~a * 104729L * 123457L, a);
                case 1: return x.grid();
                case 2: return x.work();
                case 5: return x.meter(a, b);
                case 6: return x.with(a, b);
                case 7: return x.says(a, b);
                case 8: return x.read(a, b, c);
                case 9: return x.move(a, b, c);
                case 10: return x.total(a, b);
                case 11: return x.run();
                case 12: return x.undo() ? 1 : 0;
                case 13: return x.judged(a);
                case 14: return x.use(a, b);
                case 15: return x.gross(a, b);
                case 16: return x.load(a, b);
                case 17: return x.residual(a);
                case 18: return x.smear(a, b);
                case 19: return x.net(a, b);
                case 20: return x.share(a, b);
                case 21: return x.sum(a);
                case 22: return x.gaps(a);
                case 23: return x.stands(a, b);
                case 24: return x.proof(a);
                case 25: return x.worst();
                case 26: return x.lost();
                case 27: return x.settled(a, b, c);
                case 28: return x.difference(a, b, c);
                case 29: return x.drift(a);
                case 30: return x.accounts();
                case 31: return x.account(a, b);
                case 32: return x.owes(a, b);
                case 33: return x.swing(a, b, c, d);
                case 34: return x.gains(a, b);
                case 35: return x.bears(a);
                case 36: return x.heaviest();
                case 37: return x.see(a, b, c == 1) ? 1 : 0;
                case 38: return x.who();
                case 39: return x.ask();
                case 40: return x.days(a, b, c);
                case 41: return x.mark(a, b == 1) ? 1 : 0;
                case 42: return x.count(a);
                default: return 0;
            }
        } catch (NoSuchElementException e) {
            return THROWN;
        }
    }

    private long due(int name, int a, int b, int c, int d) {
        try {
            switch (name) {
                case 0: return y.feed(a * 7919L * 65537L * 31L, ~a * 104729L * 123457L, a);
                case 1: return y.grid();
                case 2: return y.work();
                case 5: return y.meter(a, b);
                case 6: return y.with(a, b);
                case 7: return y.says(a, b);
                case 8: return y.read(a, b, c);
                case 9: return y.move(a, b, c);
                case 10: return y.total(a, b);
                case 11: return y.run();
                case 12: return y.undo() ? 1 : 0;
                case 13: return y.judged(a);
                case 14: return y.use(a, b);
                case 15: return y.gross(a, b);
                case 16: return y.load(a, b);
                case 17: return y.residual(a);
                case 18: return y.smear(a, b);
                case 19: return y.net(a, b);
                case 20: return y.share(a, b);
                case 21: return y.sum(a);
                case 22: return y.gaps(a);
                case 23: return y.stands(a, b);
                case 24: return y.proof(a);
                case 25: return y.worst();
                case 26: return y.lost();
                case 27: return y.settled(a, b, c);
                case 28: return y.difference(a, b, c);
                case 29: return y.drift(a);
                case 30: return y.accounts();
                case 31: return y.account(a, b);
                case 32: return y.owes(a, b);
                case 33: return y.swing(a, b, c, d);
                case 34: return y.gains(a, b);
                case 35: return y.bears(a);
                case 36: return y.heaviest();
                case 37: return y.see(a, b, c == 1) ? 1 : 0;
                case 38: return y.who();
                case 39: return y.ask();
                case 40: return y.days(a, b, c);
                case 41: return y.mark(a, b == 1) ? 1 : 0;
                case 42: return y.count(a);
                default: return 0;
            }
        } catch (NoSuchElementException e) {
            return THROWN;
        }
    }
}
