/** Promises 6 to 10: cells, galleries and drums as they are NOW. */
public final class NowTest {
    private static final String TEXT = "field reach 3 error 0 pace 2 falls 50;row sscs;row sgrs;row ssss;wall 3 0;"
            + "drum d 0 0;drum k 3 2;dig a miners 0 2 eee;dig b garrison 3 0 ssw;dig c miners 0 2 n";

    public static void main(String[] args) {
        Due due = new Due("NowTest");
        cells(due);
        galleries(due);
        drums(due);
        dugCells(due);
        farOff(due);
        due.end();
    }

    private static void cells(Due due) {
        CounterMine m = Due.of("field reach 3 error 0 pace 2 falls 50;row scgr;row sscc;wall 0 0;"
                + "dig a miners 0 0 es;dig b garrison 0 0 s");
        int[] soils = {0, 1, 2, 3, 0, 0, 1, 1};
        int[] nights = {0, 2, 3, -2, 1, 1, 2, 2};
        for (int i = 0; i < 8; i++) {
            due.taken(m, "cell soil " + i, m.cell(i % 4, i / 4, 0), soils[i]);
            due.taken(m, "cell nights " + i, m.cell(i % 4, i / 4, 1), nights[i]);
            due.taken(m, "cell dug " + i, m.cell(i % 4, i / 4, 2), i == 0 ? 1 : 0);
            due.taken(m, "cell broken " + i, m.cell(i % 4, i / 4, 3), 0);
            due.taken(m, "cell galleries " + i, m.cell(i % 4, i / 4, 4), i == 0 ? 3 : 0);
        }
        due.refused(m, "cell west of all", m.cell(-1, 0, 0), -1, 1);
        due.refused(m, "cell east of all", m.cell(4, 0, 0), -1, 1);
        due.refused(m, "cell north of all", m.cell(0, -1, 0), -1, 1);
        due.refused(m, "cell south of all", m.cell(0, 2, 0), -1, 1);
        due.refused(m, "cell, no such thing", m.cell(0, 0, 5), -1, 1);
        due.refused(m, "cell, no such thing", m.cell(0, 0, -1), -1, 1);
        due.taken(m, "charge", m.charge(1, 0, 1), 3);
        int[] broken = {1, 1, 1, 0, 0, 1, 0, 0};
        int[] then = {2, 3, 4, -2, 1, 2, 2, 2};
        for (int i = 0; i < 8; i++) {
            due.taken(m, "cell broken " + i, m.cell(i % 4, i / 4, 3), broken[i]);
            due.taken(m, "cell nights " + i, m.cell(i % 4, i / 4, 1), then[i]);
            due.taken(m, "cell dug " + i, m.cell(i % 4, i / 4, 2), 0);
            due.taken(m, "SHUT or not " + i, m.cell(i % 4, i / 4, 4), i == 0 ? 3 : 0);
        }
    }

    private static void galleries(Due due) {
        CounterMine m = Due.of(TEXT);
        int[][] all = {{0, 20, 0, 1, 0, 3}, {1, 3, 0, 1, 0, 3}, {0, 20, 0, 1, 0, 1}};
        allOf(due, m, all);
        m.night();
        allOf(due, m, new int[][] {{0, 21, 1, 1, 0, 3}, {1, 13, 1, 1, 0, 3}, {0, 10, 1, 0, 0, 1}});
        m.night();
        allOf(due, m, new int[][] {{0, 22, 2, 1, 0, 3}, {1, 23, 2, 1, 0, 3}, {0, 10, 1, 0, 0, 1}});
        due.refused(m, "gallery(3, 0)", m.gallery(3, 0), -1, 1);
        due.refused(m, "gallery(-1, 0)", m.gallery(-1, 0), -1, 1);
        due.refused(m, "gallery(0, 6)", m.gallery(0, 6), -1, 1);
        due.refused(m, "gallery(0, -1)", m.gallery(0, -1), -1, 1);
        m.charge(3, 2, 0);
        due.taken(m, "SHUT", m.gallery(1, 4), 1);
        due.taken(m, "SHUT, no next one", m.gallery(1, 3), 0);
        due.taken(m, "SHUT, how many it has come to", m.gallery(1, 2), 2);
    }

    private static void allOf(Due due, CounterMine m, int[][] all) {
        for (int g = 0; g < all.length; g++) {
            for (int what = 0; what < 6; what++) {
                due.taken(m, "gallery(" + g + ", " + what + ")", m.gallery(g, what), all[g][what]);
            }
        }
    }

    private static void drums(Due due) {
        CounterMine m = Due.of(TEXT);
        due.taken(m, "drum(0)", m.drum(0), 0);
        due.taken(m, "drum(1)", m.drum(1), 23);
        due.refused(m, "drum(2)", m.drum(2), -1, 1);
        due.refused(m, "drum(-1)", m.drum(-1), -1, 1);
        m.move(1, 1, 1);
        due.taken(m, "drum(1) MOVED", m.drum(1), 11);
    }

    private static void dugCells(Due due) {
        CounterMine m = Due.of(TEXT);
        due.taken(m, "dug(), two begin in one cell", m.dug(), 2);
        m.night();
        due.taken(m, "dug()", m.dug(), 5);
        m.charge(0, 1, 1);
        due.taken(m, "dug() behind a charge", m.dug(), 3);
    }

    private static void farOff(Due due) {
        CounterMine m = Due.of(TEXT);
        due.taken(m, "far", m.far(0, 0, 3, 2), 5);
        due.taken(m, "far", m.far(3, 2, 0, 0), 5);
        due.taken(m, "far", m.far(3, 0, 0, 2), 5);
        due.taken(m, "far, through rock", m.far(1, 1, 3, 1), 2);
        due.taken(m, "far, to rock", m.far(2, 1, 2, 1), 0);
        due.refused(m, "far", m.far(4, 0, 0, 0), -1, 1);
        due.refused(m, "far", m.far(0, 3, 0, 0), -1, 1);
        due.refused(m, "far", m.far(0, 0, -1, 0), -1, 1);
        due.refused(m, "far", m.far(0, 0, 0, -1), -1, 1);
    }
}
