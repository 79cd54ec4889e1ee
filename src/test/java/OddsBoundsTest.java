import java.math.BigInteger;

/** The bounds that promises 35 to 40 name, each with its neighbours: powder, odds, seeds. */
public final class OddsBoundsTest {
    private static final String ROWS = ";row sssss;row sssss;wall 0 0";
    private static final int SEEDS = 65537;

    public static void main(String[] args) {
        Due due = new Due("OddsBoundsTest");
        powders(due);
        everyChance(due);
        everyMean(due);
        seeds(due);
        everySeed(due);
        lastSeed(due);
        due.end();
    }

    private static String text(int falls, String lines) {
        return "field reach 1 error 0 pace 1 falls " + falls + ROWS + lines;
    }

    /** "(0 .. 9). -100: 1 (no FIELD); 2.", "NONE: 1 (no FIELD); 2." */
    private static void powders(Due due) {
        Bound b = new Bound(due, text(0, ""));
        CounterMine m = b.mine;
        boolean[] either = {false, true};
        for (boolean miners : either) {
            for (boolean garrison : either) {
                for (boolean of : either) {
                    b.numbers("digs", 0, 9, -100, 2, powder -> m.digs(powder, miners, garrison, of));
                }
            }
        }
        b.numbers("rests", 0, 9, -1, 2, powder -> m.rests(powder));
        b.numbers("rest", 0, 9, -1, 2, powder -> m.rest(powder));
        b.asked("both dig without powder", () -> m.digs(0, true, true, false), 0);
        b.asked("both dig, the most powder", () -> m.digs(9, true, true, true), -9);
        // powder 1: both have as much by digging both as by listening alone
        int[] rests = {1, 3, 2, 2, 2, 2, 2, 2, 2, 2};
        for (int powder = 0; powder <= 9; powder++) {
            int of = powder;
            b.asked("rests(" + powder + ")", () -> m.rests(of), rests[powder]);
            b.asked("rest(" + powder + ")", () -> m.rest(of), powder == 0 ? 11 : 1);
        }
        Bound none = new Bound(due, new CounterMine());
        int[] all = {-1, 0, 9, 10};
        for (int powder : all) {
            none.refused("digs without a FIELD", () -> none.mine.digs(powder, true, false, true), -100, 1);
            none.refused("rests without a FIELD", () -> none.mine.rests(powder), 1);
            none.refused("rest without a FIELD", () -> none.mine.rest(powder), 1);
        }
    }

    /** Each chance from 0 to 100, each length of a WAY: "in lowest terms (0 by 1)". */
    private static void everyChance(Due due) {
        for (int falls = 0; falls <= 100; falls++) {
            CounterMine m = Due.of(text(falls, ";dig a miners 0 0 eeeeswww"));
            for (int cells = 1; cells <= 9; cells++) {
                BigInteger upper = BigInteger.valueOf(100 - falls).pow(cells);
                BigInteger lower = BigInteger.valueOf(100).pow(cells);
                fraction(due, m, falls + " in a hundred, " + cells, upper, lower, false);
                fraction(due, m, "mean of one, " + falls + " in a hundred, " + cells, upper, lower, true);
                m.night();
            }
            due.is("at its end", m.gallery(0, 3), 0);
        }
    }

    private static void fraction(Due due, CounterMine m, String name, BigInteger upper, BigInteger lower, boolean mean) {
        BigInteger common = upper.gcd(lower);
        due.taken(m, name + ", upper", mean ? m.mean(false) : m.odds(0, false), upper.divide(common).longValueExact());
        due.taken(m, name + ", lower", mean ? m.mean(true) : m.odds(0, true), lower.divide(common).longValueExact());
    }

    /** None to four galleries, of unlike lengths, at each chance. */
    private static void everyMean(Due due) {
        String[] digs = {";dig a miners 0 0 eeeeswww", ";dig b garrison 0 1 e", ";dig c miners 1 1 eee", ";dig d miners 2 1 eewwwwe"};
        for (int falls = 0; falls <= 100; falls++) {
            String lines = "";
            for (int count = 0; count <= 4; count++) {
                CounterMine m = Due.of(text(falls, lines));
                for (int n = 0; n <= 8; n++) {
                    meanNow(due, m, falls);
                    m.night();
                }
                lines += count < 4 ? digs[count] : "";
            }
        }
    }

    private static void meanNow(Due due, CounterMine m, int falls) {
        BigInteger upper = BigInteger.ZERO;
        BigInteger lower = BigInteger.valueOf(100).pow(9);
        for (int g = 0; g < m.size(7); g++) {
            int cells = m.gallery(g, 2) + 1;
            upper = upper.add(BigInteger.valueOf(100 - falls).pow(cells).multiply(BigInteger.valueOf(100).pow(9 - cells)));
        }
        fraction(due, m, "mean of " + m.size(7) + ", falls " + falls, upper, lower, true);
    }

    /** "a SEED (0 .. 65,536)" */
    private static void seeds(Due due) {
        Bound b = new Bound(due, text(50, ";dig a miners 0 0 e"));
        b.numbers("drawn", 0, 65536, -1, 2, seed -> b.mine.drawn(seed));
        Bound none = new Bound(due, new CounterMine());
        none.refused("drawn without a FIELD", () -> none.mine.drawn(0), 1);
        none.refused("drawn without a FIELD", () -> none.mine.drawn(65537), 1);
    }

    /** "a DRAW mod 100: below falls it does": every SEED, at falls that any, some and no DRAW is below. */
    private static void everySeed(Due due) {
        int[] all = {0, 1, 2, 50, 98, 99, 100};
        for (int falls : all) {
            CounterMine m = Due.of(text(falls, ";dig a miners 0 0 e;dig b garrison 4 1 w"));
            for (int seed = 0; seed < SEEDS; seed++) {
                long first = (75L * seed + 74L) % SEEDS;
                long second = (75L * first + 74L) % SEEDS;
                int stand = (first % 100 < falls ? 0 : 1) + (second % 100 < falls ? 0 : 2);
                if (m.drawn(seed) != stand) {
                    due.is("drawn(" + seed + ") at falls " + falls, m.drawn(seed), stand);
                }
            }
            due.is("trouble()", m.trouble(), 0);
        }
    }

    /** SEED 65,536 becomes itself, so each DRAW of it is 36 in a hundred; SEED 0 becomes 74, then 5,624. */
    private static void lastSeed(Due due) {
        int[][] want = {{36, 65536, 3}, {37, 65536, 0}, {24, 0, 3}, {25, 0, 1}, {74, 0, 1}, {75, 0, 0}};
        for (int[] one : want) {
            Bound b = new Bound(due, text(one[0], ";dig a miners 0 0 eeee;dig b garrison 4 1 w"));
            b.asked("drawn(" + one[1] + ") at falls " + one[0], () -> b.mine.drawn(one[1]), one[2]);
            b.mine.charge(4, 1, 2);
            b.asked("SHUT ones, too", () -> b.mine.drawn(one[1]), one[2]);
            b.mine.night();
            if (one[1] == 65536) {
                b.asked("all draws are alike", () -> b.mine.drawn(one[1]), one[2]);
            }
        }
    }
}
