/** Promises 27 to 34: where the secret pick can be. */
public final class SecretTest {
    private static final String SHORT = "field reach 3 error 0 pace 2 falls 50;row sscs;row sgrs;row ssss;wall 3 0;"
            + "drum d 0 0;dig a miners 0 2 eee;dig b garrison 3 0 ssw;heard d 0 2;heard d 2 1";

    public static void main(String[] args) {
        Due due = new Due("SecretTest");
        known(due);
        errorsAndPaces(due);
        rockAndEdge(due);
        beyondReach(due);
        noFits(due);
        oneMoreDrum(due);
        meetings(due);
        lastNight(due);
        wrongNumbers(due);
        due.end();
    }

    private static void fits(Due due, CounterMine m, int[][] all) {
        due.taken(m, "fits()", m.fits(), all.length);
        for (int i = 0; i < all.length; i++) {
            due.taken(m, "fitAt(" + i + ")", m.fitAt(i), all[i][0]);
            due.taken(m, "fitWay(" + i + ")", m.fitWay(i), all[i][1]);
        }
        due.refused(m, "fitAt behind the last", m.fitAt(all.length), -1, 1);
        due.refused(m, "fitWay behind the last", m.fitWay(all.length), -1, 1);
        due.refused(m, "fitAt(-1)", m.fitAt(-1), -1, 1);
        due.refused(m, "fitWay(-1)", m.fitWay(-1), -1, 1);
    }

    private static void known(Due due) {
        CounterMine m = Due.of(SHORT);
        int[][] all = {{2, 4}, {11, 1}, {11, 4}, {20, 1}};
        fits(due, m, all);
        m.night();
        m.charge(1, 1, 2);
        m.move(0, 3, 2);
        fits(due, m, all);
        due.taken(m, "beAt(1, 0, 2)", m.beAt(1, 0, 2), 2);
        due.taken(m, "beAt(1, 0, 1)", m.beAt(1, 0, 1), 0);
        due.taken(m, "beAt(1, 1, 1)", m.beAt(1, 1, 1), 2);
        due.taken(m, "beAt(0, 0, 60)", m.beAt(0, 0, 60), 2);
        due.taken(m, "beAt rock", m.beAt(2, 1, 0), 0);
        due.taken(m, "likely(0)", m.likely(0), 11);
        due.taken(m, "likely(2)", m.likely(2), 1);
        due.taken(m, "likely(4)", m.likely(4), 0);
    }

    /** No report: every cell that isn't rock, each of five ways. */
    private static void errorsAndPaces(Due due) {
        CounterMine all = Due.of("field reach 1 error 3 pace 1 falls 0;row sr;row ss;wall 0 0");
        int[][] every = new int[15][2];
        int[] cells = {0, 10, 11};
        for (int i = 0; i < 15; i++) {
            every[i][0] = cells[i / 5];
            every[i][1] = i % 5;
        }
        fits(due, all, every);
        String row = "row sssss;row rrrrr;wall 0 0;drum d 0 0;heard d 0 ";
        CounterMine exact = Due.of("field reach 1 error 0 pace 3 falls 0;" + row + "2;heard d 3 3");
        fits(due, exact, new int[][] {{2, 2}});
        CounterMine slow = Due.of("field reach 1 error 0 pace 4 falls 0;" + row + "2;heard d 3 3");
        fits(due, slow, new int[0][]);
        CounterMine stays = Due.of("field reach 1 error 0 pace 4 falls 0;" + row + "2;heard d 3 2");
        fits(due, stays, new int[][] {{2, 0}, {2, 1}, {2, 2}, {2, 3}, {2, 4}});
        CounterMine wrong = Due.of("field reach 1 error 1 pace 1 falls 0;" + row + "1;heard d 1 3");
        fits(due, wrong, new int[][] {{1, 2}, {2, 0}, {2, 1}, {2, 2}, {2, 3}});
    }

    private static void rockAndEdge(Due due) {
        CounterMine m = Due.of("field reach 1 error 0 pace 1 falls 0;row ssrs;row ssss;wall 0 0;drum d 0 0;heard d 0 0;"
                + "heard d 9 1");
        fits(due, m, new int[][] {{0, 2}, {0, 3}});
        due.taken(m, "beAt(1, 0, 60)", m.beAt(1, 0, 60), 1);
        due.taken(m, "beAt(0, 1, 60)", m.beAt(0, 1, 60), 1);
        CounterMine edge = Due.of("field reach 1 error 0 pace 1 falls 0;row sssr;row ssss;wall 0 0;drum d 0 0;heard d 60 4");
        fits(due, edge, new int[][] {{10, 2}, {11, 2}, {12, 2}, {13, 0}, {13, 1}, {13, 2}, {13, 3}});
    }

    /** What was heard is held against error alone; reach isn't asked for. */
    private static void beyondReach(Due due) {
        CounterMine m = Due.of("field reach 1 error 0 pace 1 falls 0;row sssss;row rrrrr;wall 0 0;drum d 0 0;heard d 0 4;"
                + "heard d 60 4");
        fits(due, m, new int[][] {{4, 0}, {4, 1}, {4, 2}, {4, 3}});
    }

    private static void noFits(Due due) {
        CounterMine m = Due.of("field reach 1 error 0 pace 1 falls 0;row ss;row ss;wall 0 0;drum d 0 0;heard d 0 9;"
                + "dig a miners 0 0 e");
        fits(due, m, new int[0][]);
        due.taken(m, "likely", m.likely(0), -2);
        due.taken(m, "oneMore", m.oneMore(60), -2);
        due.taken(m, "oneMoreLeaves", m.oneMoreLeaves(0), -2);
        due.taken(m, "beAt", m.beAt(0, 0, 0), 0);
        due.refused(m, "meets", m.meets(0, 0), -1, 1);
        due.refused(m, "likely", m.likely(61), -1, 2);
        due.refused(m, "oneMore", m.oneMore(61), -1, 2);
        due.refused(m, "oneMoreLeaves", m.oneMoreLeaves(61), -1, 2);
    }

    private static void oneMoreDrum(Due due) {
        CounterMine m = Due.of(SHORT);
        due.taken(m, "oneMore(0)", m.oneMore(0), 2);
        due.taken(m, "oneMoreLeaves(0)", m.oneMoreLeaves(0), 2);
        due.taken(m, "oneMore(2)", m.oneMore(2), 1);
        due.taken(m, "oneMoreLeaves(2)", m.oneMoreLeaves(2), 2);
        due.taken(m, "oneMore(4)", m.oneMore(4), 0);
        CounterMine one = Due.of("field reach 1 error 0 pace 1 falls 0;row rss;row sss;wall 1 0;drum d 1 0;heard d 0 0;"
                + "heard d 1 0");
        fits(due, one, new int[][] {{1, 0}, {1, 1}, {1, 4}});
        due.taken(one, "the first that isn't rock", one.oneMore(0), 1);
        due.taken(one, "all are left", one.oneMoreLeaves(0), 3);
    }

    private static void meetings(Due due) {
        CounterMine m = Due.of(SHORT);
        due.taken(m, "meets(0, 3)", m.meets(0, 3), 0);
        due.taken(m, "meets(0, 0)", m.meets(0, 0), 3);
        due.taken(m, "meets(1, 0)", m.meets(1, 0), 3);
        due.refused(m, "meets(0, 4)", m.meets(0, 4), -1, 1);
        due.refused(m, "meets(0, -1)", m.meets(0, -1), -1, 1);
        due.refused(m, "meets(2, 0)", m.meets(2, 0), -1, 1);
        due.refused(m, "meets(-1, 0)", m.meets(-1, 0), -1, 1);
        m.night();
        due.taken(m, "night 0 being NOW, through what is DUG", m.meets(0, 3), 0);
        due.taken(m, "night 0 being NOW", m.meets(0, 0), 3);
        m.charge(1, 2, 0);
        due.taken(m, "SHUT or not", m.meets(0, 3), 0);
        CounterMine apart = Due.of("field reach 1 error 0 pace 1 falls 0;row srs;row srs;wall 0 0;drum d 0 0;heard d 0 0;"
                + "dig a miners 2 0 s;dig b garrison 0 1 n");
        due.taken(apart, "no way", apart.meets(0, 0), -2);
        due.taken(apart, "one night to dig", apart.meets(1, 0), 1);
        due.taken(apart, "it comes itself", apart.meets(1, 3), 1);
    }

    /** One long way of gravel: a pick that stays is met by the 60th night, or not at all. */
    private static void lastNight(Due due) {
        CounterMine m = Due.of("field reach 1 error 0 pace 1 falls 0;row gggggggg;row rrrrrrrg;row gggggggg;row grrrrrrr;"
                + "row gggggggg;wall 0 0;dig a miners 0 0 e");
        for (int i = 0; i < m.fits(); i++) {
            if (m.fitWay(i) == 0 && m.fitAt(i) == 42) {
                due.taken(m, "60 nights", m.meets(0, i), 60);
            }
            if (m.fitWay(i) == 0 && m.fitAt(i) == 43) {
                due.taken(m, "63 nights", m.meets(0, i), -2);
            }
        }
        due.taken(m, "60 nights", m.nights(0, 0, 2, 4), 60);
    }

    private static void wrongNumbers(Due due) {
        CounterMine m = Due.of(SHORT);
        due.refused(m, "beAt", m.beAt(4, 0, 61), -1, 1);
        due.refused(m, "beAt", m.beAt(0, 3, 0), -1, 1);
        due.refused(m, "beAt", m.beAt(0, 0, 61), -1, 2);
        due.refused(m, "beAt", m.beAt(0, 0, -1), -1, 2);
        due.refused(m, "likely", m.likely(-1), -1, 2);
        due.refused(m, "oneMore", m.oneMore(-1), -1, 2);
        due.refused(m, "oneMoreLeaves", m.oneMoreLeaves(-1), -1, 2);
        due.taken(m, "likely(60)", m.likely(60), 0);
        due.taken(m, "oneMore(60)", m.oneMore(60), 0);
        due.taken(m, "oneMoreLeaves(60)", m.oneMoreLeaves(60), 2);
    }
}
