import java.util.function.LongSupplier;

/**
 * A call at a bound, or one beyond it: what it answers, and what fault, where, size and trouble answer behind it. Ahead
 * of each a call leaves another TROUBLE than the one that is due, so that one that leaves none is seen.
 */
final class Bound {
    interface Cell {
        long of(int x, int y);
    }

    interface Number {
        long of(int n);
    }

    final Due due;
    final CounterMine mine;

    Bound(Due due, CounterMine mine) {
        this.due = due;
        this.mine = mine;
    }

    Bound(Due due, String text) {
        this(due, Due.of(text));
    }

    /** A call that only asks, and isn't refused. */
    void asked(String call, LongSupplier does, long want) {
        long got = unchanged(call, does, 0);
        due.is(call, got, want);
    }

    void refused(String call, LongSupplier does, long want, int trouble) {
        long got = unchanged(call, does, trouble);
        due.is(call, got, want);
    }

    void refused(String call, LongSupplier does, int trouble) {
        refused(call, does, CounterMine.NONE, trouble);
    }

    /** An ACT that isn't refused, and how many can be undone then. */
    void done(String call, LongSupplier does, long want, int kept) {
        int fault = mine.fault();
        int[] sizes = sizes();
        upset(0);
        due.is(call, does.getAsLong(), want);
        behind(call, 0, fault);
        for (int what = 0; what < sizes.length; what++) {
            if (what != 9) {
                due.is("size(" + what + ") behind " + call, mine.size(what), what == 10 ? kept : sizes[what]);
            }
        }
    }

    private long unchanged(String call, LongSupplier does, int trouble) {
        int fault = mine.fault();
        int[] sizes = sizes();
        String stood = Due.stateOf(mine);
        upset(trouble);
        long got = does.getAsLong();
        behind(call, trouble, fault);
        for (int what = 0; what < sizes.length; what++) {
            due.is("size(" + what + ") behind " + call, mine.size(what), sizes[what]);
        }
        due.is("all stays behind " + call, Due.stateOf(mine).equals(stood), true);
        return got;
    }

    private void behind(String call, int trouble, int fault) {
        due.is("trouble() behind " + call, mine.trouble(), trouble);
        due.is("where() behind " + call, mine.where(), CounterMine.NONE);
        due.is("fault() behind " + call, mine.fault(), fault);
    }

    private void upset(int trouble) {
        if (trouble == 2) {
            mine.drum(-1);
        } else {
            mine.field(-1);
        }
    }

    private int[] sizes() {
        int[] sizes = new int[13];
        for (int what = 0; what < sizes.length; what++) {
            sizes[what] = mine.size(what);
        }
        return sizes;
    }

    /** A number from least to most: those at both ends are taken, those next to them and the utmost ones are refused. */
    void numbers(String call, int least, int most, long refusal, int trouble, Number does) {
        int[] in = {least, Math.min(least + 1, most), Math.max(most - 1, least), most};
        for (int n : in) {
            long got = unchanged(call + " of " + n, () -> does.of(n), 0);
            due.is(call + " of " + n + " isn't refused", got == refusal, false);
        }
        noNumbers(call, least, most, refusal, trouble, does);
    }

    void noNumbers(String call, int least, int most, long refusal, int trouble, Number does) {
        int[] out = {least - 1, most + 1, Integer.MIN_VALUE, Integer.MAX_VALUE, least - 256, most + 256, least - 65536,
            most + 65536};
        for (int n : out) {
            refused(call + " of " + n, () -> does.of(n), refusal, trouble);
        }
    }

    /** A CELL: those at all edges are taken, those next to them and the utmost ones are refused by 1. */
    void cells(String call, Cell does) {
        int width = mine.size(4);
        int height = mine.size(5);
        for (int x = 0; x < width; x += width - 1) {
            for (int y = 0; y < height; y += height - 1) {
                int toX = x;
                int toY = y;
                String name = call + " at " + x + " " + y;
                long got = unchanged(name, () -> does.of(toX, toY), 0);
                due.is(name + " isn't refused", got == CounterMine.NONE, false);
            }
        }
        noCells(call, does);
    }

    void noCells(String call, Cell does) {
        int width = mine.size(4);
        int height = mine.size(5);
        int[] xs = {Integer.MIN_VALUE, -64, -8, -1, 0, width - 1, width, width + 1, 8, 10, 64, Integer.MAX_VALUE};
        int[] ys = {Integer.MIN_VALUE, -64, -8, -1, 0, height - 1, height, height + 1, 8, 10, 64, Integer.MAX_VALUE};
        for (int x : xs) {
            for (int y : ys) {
                if (x < 0 || x >= width || y < 0 || y >= height) {
                    refused(call + " at " + x + " " + y, () -> does.of(x, y), 1);
                }
            }
        }
    }
}
