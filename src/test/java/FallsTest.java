/** Promises 38 to 40: falls by chance and by draws. */
public final class FallsTest {
    private static final String ROWS = ";row sssss;row sssss;wall 0 0";

    public static void main(String[] args) {
        Due due = new Due("FallsTest");
        oddsOfOne(due);
        edges(due);
        means(due);
        draws(due);
        due.end();
    }

    private static CounterMine of(int falls, String lines) {
        return Due.of("field reach 1 error 0 pace 1 falls " + falls + ROWS + lines);
    }

    private static void odds(Due due, CounterMine m, int g, long upper, long lower) {
        due.taken(m, "odds(" + g + ", false)", m.odds(g, false), upper);
        due.taken(m, "odds(" + g + ", true)", m.odds(g, true), lower);
    }

    private static void mean(Due due, CounterMine m, long upper, long lower) {
        due.taken(m, "mean(false)", m.mean(false), upper);
        due.taken(m, "mean(true)", m.mean(true), lower);
    }

    private static void oddsOfOne(Due due) {
        CounterMine m = of(40, ";dig a miners 0 0 eee;dig b garrison 4 1 w");
        odds(due, m, 0, 3, 5);
        odds(due, m, 1, 3, 5);
        m.night();
        odds(due, m, 0, 9, 25);
        m.charge(4, 1, 1);
        due.taken(m, "SHUT", m.gallery(1, 4), 1);
        m.night();
        odds(due, m, 0, 27, 125);
        odds(due, m, 1, 9, 25);
        due.refused(m, "odds(2)", m.odds(2, false), -1, 1);
        due.refused(m, "odds(-1)", m.odds(-1, true), -1, 1);
    }

    private static void edges(Due due) {
        CounterMine never = of(0, ";dig a miners 0 0 eee");
        never.night();
        odds(due, never, 0, 1, 1);
        mean(due, never, 1, 1);
        CounterMine always = of(100, ";dig a miners 0 0 eee;dig b miners 0 0 e");
        always.night();
        odds(due, always, 0, 0, 1);
        mean(due, always, 0, 1);
        CounterMine most = of(1, ";dig a miners 0 0 eeeeswww;dig b miners 0 0 eeeeswww;"
                + "dig c miners 0 0 eeeeswww;dig d garrison 0 0 eeeeswww");
        for (int n = 0; n < 8; n++) {
            most.night();
        }
        odds(due, most, 3, 913517247483640899L, 1000000000000000000L);
        mean(due, most, 913517247483640899L, 250000000000000000L);
        CounterMine turns = of(50, ";dig a miners 0 0 ewew");
        for (int n = 0; n < 4; n++) {
            turns.night();
        }
        odds(due, turns, 0, 1, 32);
    }

    private static void means(Due due) {
        CounterMine none = of(50, "");
        mean(due, none, 0, 1);
        CounterMine m = of(50, ";dig a miners 0 0 eee;dig b garrison 4 1 w;dig c garrison 4 1 w");
        mean(due, m, 3, 2);
        m.night();
        mean(due, m, 3, 4);
        m.night();
        mean(due, m, 5, 8);
        m.charge(4, 1, 2);
        mean(due, m, 5, 8);
    }

    /** The first draw of seed 0 is 74, then 5,624, 28,600 (mod 65,537: 75 times and 74 more). */
    private static void draws(Due due) {
        CounterMine m = of(50, ";dig a miners 0 0 ee;dig b garrison 4 1 w;dig c garrison 4 1 w");
        due.taken(m, "74, 24, 68", m.drawn(0), 1 + (drawOf(0, 3) % 100 < 50 ? 0 : 4));
        for (int seed = 0; seed <= 65536; seed += 4096) {
            due.taken(m, "drawn(" + seed + ")", m.drawn(seed), byHand(seed, new int[] {1, 1, 1}, 50));
        }
        m.night();
        m.night();
        m.charge(0, 0, 2);
        for (int seed = 1; seed <= 65536; seed += 257) {
            due.taken(m, "drawn(" + seed + "), SHUT ones, too", m.drawn(seed), byHand(seed, new int[] {3, 2, 2}, 50));
        }
        due.refused(m, "drawn(65537)", m.drawn(65537), -1, 2);
        due.refused(m, "drawn(-1)", m.drawn(-1), -1, 2);
        CounterMine never = of(0, ";dig a miners 0 0 ee;dig b garrison 4 1 w");
        due.taken(never, "none falls", never.drawn(65536), 3);
        CounterMine always = of(100, ";dig a miners 0 0 ee;dig b garrison 4 1 w");
        due.taken(always, "all fall", always.drawn(65536), 0);
        due.taken(of(1, ""), "no gallery", of(1, "").drawn(7), 0);
    }

    private static int drawOf(int seed, int times) {
        long draw = seed;
        for (int i = 0; i < times; i++) {
            draw = (75L * draw + 74L) % 65537L;
        }
        return (int) draw;
    }

    private static int byHand(int seed, int[] cells, int falls) {
        int draws = 0;
        int stand = 0;
        for (int g = 0; g < cells.length; g++) {
            boolean stands = true;
            for (int i = 0; i < cells[g]; i++) {
                draws++;
                stands &= drawOf(seed, draws) % 100 >= falls;
            }
            stand += stands ? 1 << g : 0;
        }
        return stand;
    }
}
