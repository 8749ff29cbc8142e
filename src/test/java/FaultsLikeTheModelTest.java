/** Many a GRID and WORK, right and wrong, must have the FAULT that the model finds in it. */
public final class FaultsLikeTheModelTest {
    public static void main(String[] args) {
        int runs = args.length > 0 ? Integer.parseInt(args[0]) : 1500;
        int texts = 0;
        int[] kinds = new int[6];
        for (int seed = 1; seed <= runs; seed++) {
            Dice dice = new Dice(seed + 1_000_000L);
            Tapes tapes = new Tapes(dice);
            FeederShares x = new FeederShares();
            Model y = new Model();
            for (int i = 0; i < 20; i++) {
                if (i % 4 == 0) {
                    // An object is used for at most 512 calls.
                    x = new FeederShares();
                    y = new Model();
                }
                String grid = i % 4 == 3 ? "smears " + tapes.law(0) + " ;" : tapes.grid();
                kinds[compare(x, y, grid, true, seed) % 16]++;
                kinds[compare(x, y, tapes.work(), false, seed) % 16]++;
                texts += 2;
            }
        }
        for (int kind = 0; kind < kinds.length; kind++) {
            System.out.println("fault " + kind + ": " + kinds[kind]);
            if (kinds[kind] == 0) {
                System.exit(1);
            }
        }
        System.out.println(texts + " texts were read alike");
    }

    private static int compare(FeederShares x, Model y, String text, boolean grid, int seed) {
        Check.feed(x, text);
        for (char c : text.toCharArray()) {
            y.feed(c, 0, 0);
        }
        int got = grid ? x.grid() : x.work();
        int want = grid ? y.grid() : y.work();
        boolean alike = got == want;
        for (int what = 0; what <= 10; what++) {
            alike &= x.count(what) == y.count(what);
        }
        if (!alike) {
            System.out.println("seed " + seed + ": " + text + "\nanswered " + got + ", due is " + want);
            System.exit(1);
        }
        return want;
    }
}
