/** The same throws in every run of the tests: a seed tells them all. */
final class Dice {
    private long g;

    Dice(long seed) {
        // Seeds side by side would else tell the same throws, one behind the other.
        g = mixed(seed) ^ mixed(seed + 0x632BE59BD9B4E019L) << 1;
    }

    long next() {
        g += 0x9E3779B97F4A7C15L;
        return mixed(g);
    }

    private static long mixed(long from) {
        long z = (from ^ from >>> 30) * 0xBF58476D1CE4E5B9L;
        z = (z ^ z >>> 27) * 0x94D049BB133111EBL;
        return z ^ z >>> 31;
    }

    int below(int m) {
        return (int) Long.remainderUnsigned(next(), m);
    }

    int from(int low, int high) {
        return low + below(high - low + 1);
    }

    boolean once(int in) {
        return below(in) == 0;
    }

    String of(String... all) {
        return all[below(all.length)];
    }
}
