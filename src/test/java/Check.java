import java.nio.ByteBuffer;
import java.util.NoSuchElementException;

/** What the tests share: what is due, what throws, and texts brought to the TAPE. */
final class Check {
    private static final String MORE_FAULTS = " what ; slots 13 ; total 9999 0 ; ?";

    private static int checks = 0;
    private static int wrong = 0;

    interface Call {
        long answer();
    }

    private Check() {
    }

    static void due(String what, long want, long got) {
        checks++;
        if (got != want) {
            wrong++;
            System.out.println(what + ": answered " + got + ", due is " + want);
        }
    }

    static void due(String what, boolean want, boolean got) {
        due(what, want ? 1 : 0, got ? 1 : 0);
    }

    static void refused(String what, Call call) {
        checks++;
        try {
            long got = call.answer();
            wrong++;
            System.out.println(what + ": answered " + got + ", due is a NoSuchElementException");
        } catch (NoSuchElementException e) {
            return;
        }
    }

    /** Brings a text to the TAPE; 0 fills up the last long and is left out. */
    static int feed(FeederShares x, String text) {
        ByteBuffer b = ByteBuffer.allocate((text.length() + 23) / 24 * 24);
        for (char c : text.toCharArray()) {
            b.put((byte) c);
        }
        b.rewind();
        int signs = x.count(10);
        while (b.remaining() > 0) {
            signs = x.feed(b.getLong(), b.getLong(), b.getLong());
        }
        return signs;
    }

    static FeederShares told(String grid) {
        FeederShares x = new FeederShares();
        feed(x, grid);
        due("grid " + grid, 0, x.grid());
        return x;
    }

    static void work(FeederShares x, String work) {
        feed(x, work);
        due("work " + work, 0, x.work());
    }

    static void gridFault(int kind, int place, String text) {
        FeederShares x = new FeederShares();
        feed(x, text);
        due("the fault of the grid «" + text + "»", kind == 0 ? 0 : kind + 16 * place, x.grid());
    }

    static void workFault(FeederShares x, int kind, int place, String text) {
        feed(x, text);
        due("the fault of the work «" + text + "»", kind == 0 ? 0 : kind + 16 * place, x.work());
    }

    static void same(String what, String want, String got) {
        checks++;
        if (!want.equals(got)) {
            wrong++;
            System.out.println(what + ": is\n" + got + "\nand was\n" + want);
        }
    }

    static int wrong() {
        return wrong;
    }

    /**
     * A GRID's FAULT at the sign @, which marks a place and is taken out; kind 0: none. More FAULTS
     * behind it change nothing.
     */
    static void grid(int kind, String marked) {
        String text = marked.replace("@", "");
        int place = Math.max(0, marked.indexOf('@'));
        gridFault(kind, place, text);
        if (kind != 0 && place < text.length()) {
            gridFault(kind, place, text + MORE_FAULTS);
        }
    }

    /** A WORK's FAULT, likewise. */
    static void work(FeederShares x, int kind, String marked) {
        String text = marked.replace("@", "");
        int place = Math.max(0, marked.indexOf('@'));
        workFault(x, kind, place, text);
        if (kind != 0 && place < text.length()) {
            workFault(x, kind, place, text + MORE_FAULTS);
        }
    }

    static void end(String name) {
        System.out.println(name + ": " + (checks - wrong) + " checks as due, " + wrong + " not");
        if (wrong > 0) {
            System.exit(1);
        }
    }
}
