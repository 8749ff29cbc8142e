/** All that can be asked of an object without a change and without a BOOK, as one text. */
final class Snapshot {
    private Snapshot() {
    }

    static String of(FeederShares x) {
        StringBuilder b = new StringBuilder();
        int[] counts = new int[11];
        for (int what = 0; what < counts.length; what++) {
            counts[what] = x.count(what);
            b.append(counts[what]).append(' ');
        }
        for (int meter = 0; meter < counts[3]; meter++) {
            b.append("\nmeter ").append(x.meter(meter, 0)).append(' ').append(x.meter(meter, 1)).append(':');
            for (int place = 0; place <= counts[0]; place++) {
                b.append(' ').append(x.says(meter, place)).append('/').append(x.with(meter, place));
            }
        }
        for (int slot = 0; slot < counts[0]; slot++) {
            b.append("\nslot ").append(x.residual(slot)).append(' ').append(x.proof(slot));
        }
        for (int supplier = 0; supplier < counts[2]; supplier++) {
            b.append("\nsupplier ").append(x.sum(supplier)).append(' ').append(x.drift(supplier)).append(':');
            for (int i = 0; i < counts[5] * counts[0]; i++) {
                b.append(' ').append(x.settled(i / counts[0], supplier, i % counts[0]));
            }
        }
        int accounts = x.accounts();
        for (int i = 0; i < accounts; i++) {
            b.append("\naccount ").append(x.account(i, 0)).append(' ').append(x.account(i, 1)).append(' ').append(x.account(i, 2));
        }
        return b.append("\nwho ").append(x.who()).toString();
    }
}
