/** Promises 19 to 26: least nights, quiet ones, cuts and blasts. */
public final class WaysTest {
    private static final String HEAD = "field reach 1 error 0 pace 1 falls 0;";
    private static final String SHORT = "field reach 3 error 0 pace 2 falls 50;row sscs;row sgrs;row ssss;wall 3 0;"
            + "drum d 0 0;dig a miners 0 2 eee;dig b garrison 3 0 ssw";

    public static void main(String[] args) {
        Due due = new Due("WaysTest");
        leastNights(due);
        quietOnes(due);
        toTheWall(due);
        withinNights(due);
        deafCells(due);
        cuts(due);
        blasts(due);
        bestBlasts(due);
        due.end();
    }

    private static void leastNights(Due due) {
        CounterMine m = Due.of(SHORT);
        due.taken(m, "nights", m.nights(0, 2, 3, 0), 4);
        due.taken(m, "nights back", m.nights(3, 0, 0, 2), 4);
        due.taken(m, "0 where one is", m.nights(1, 1, 1, 1), 0);
        due.taken(m, "gravel", m.nights(0, 1, 1, 1), 3);
        due.taken(m, "rock at one", m.nights(0, 0, 2, 1), -2);
        due.taken(m, "rock at one", m.nights(2, 1, 0, 0), -2);
        due.taken(m, "rock where one is", m.nights(2, 1, 2, 1), -2);
        due.refused(m, "nights", m.nights(4, 0, 0, 0), -1, 1);
        due.refused(m, "nights", m.nights(0, 3, 0, 0), -1, 1);
        due.refused(m, "nights", m.nights(0, 0, -1, 0), -1, 1);
        due.refused(m, "nights", m.nights(0, 0, 0, -1), -1, 1);
        m.charge(2, 2, 1);
        due.taken(m, "round what is BROKEN", m.nights(0, 2, 3, 0), 5);
        CounterMine apart = Due.of(HEAD + "row srs;row srs;wall 0 0");
        due.taken(apart, "no way", apart.nights(0, 0, 2, 0), -2);
        CounterMine long8 = Due.of(HEAD + "row gggggggg;row rrrrrrrg;row gggggggg;row grrrrrrr;row gggggggg;"
                + "row rrrrrrrg;row gggggggg;row grrrrrrr;wall 0 0");
        due.taken(long8, "a long way", long8.nights(0, 0, 0, 7), 105);
        CounterMine none = Due.of(HEAD + "row ss;row ss;wall 0 0;dig a miners 0 0 es");
        none.night();
        due.taken(none, "DUG ones cost none", none.nights(0, 1, 1, 0), 0);
    }

    private static void quietOnes(Due due) {
        CounterMine m = Due.of(SHORT);
        due.taken(m, "quiet", m.quiet(2, 2, 3, 1), 2);
        due.taken(m, "quiet, the first one heard", m.quiet(3, 0, 3, 1), -2);
        due.taken(m, "quiet, the last one heard", m.quiet(3, 1, 3, 0), -2);
        due.taken(m, "quiet where one is", m.quiet(3, 2, 3, 2), 0);
        due.taken(m, "quiet where one is heard", m.quiet(0, 0, 0, 0), -2);
        due.taken(m, "quiet, rock", m.quiet(2, 1, 2, 1), -2);
        due.refused(m, "quiet", m.quiet(4, 0, 0, 0), -1, 1);
        due.refused(m, "quiet", m.quiet(0, 0, 0, 3), -1, 1);
        CounterMine round = Due.of(HEAD + "row sssss;row sssss;row sssss;row sssss;row sssss;wall 0 0;drum d 2 2");
        due.taken(round, "round a drum", round.quiet(1, 1, 3, 3), 8);
        due.taken(round, "not round it", round.nights(1, 1, 3, 3), 4);
        round.move(0, 2, 3);
        due.taken(round, "MOVED", round.quiet(1, 1, 3, 3), -2);
        due.taken(round, "MOVED", round.quiet(2, 1, 4, 2), 3);
        CounterMine no = Due.of(HEAD + "row ss;row ss;wall 0 0");
        due.taken(no, "no drum", no.quiet(0, 0, 1, 1), 2);
    }

    private static void toTheWall(Due due) {
        CounterMine m = Due.of(SHORT);
        due.taken(m, "toWall(0)", m.toWall(0), 4);
        due.taken(m, "toWall(1)", m.toWall(1), 0);
        m.night();
        due.taken(m, "from where it is, through what is DUG", m.toWall(0), 2);
        m.charge(1, 2, 0);
        due.taken(m, "SHUT or not", m.toWall(0), 2);
        due.refused(m, "toWall(2)", m.toWall(2), -1, 1);
        due.refused(m, "toWall(-1)", m.toWall(-1), -1, 1);
        CounterMine apart = Due.of(HEAD + "row srs;row srs;wall 0 0;dig a miners 2 0 s");
        due.taken(apart, "no way", apart.toWall(0), -2);
    }

    private static void withinNights(Due due) {
        CounterMine m = Due.of(SHORT);
        due.taken(m, "within 0", m.within(0, 2, 0), 1);
        due.taken(m, "within 1", m.within(0, 2, 1), 3);
        due.taken(m, "within 3", m.within(0, 2, 3), 7);
        due.taken(m, "within 99", m.within(0, 2, 99), 11);
        due.taken(m, "from rock", m.within(2, 1, 99), 0);
        due.refused(m, "within", m.within(0, 0, 100), -1, 2);
        due.refused(m, "within", m.within(0, 0, -1), -1, 2);
        due.refused(m, "from rock, too", m.within(2, 1, 100), -1, 2);
        due.refused(m, "within", m.within(4, 0, 100), -1, 1);
        due.refused(m, "within", m.within(0, -1, 0), -1, 1);
        CounterMine dug = Due.of(HEAD + "row sss;row sss;wall 0 0;dig a miners 0 0 ee");
        dug.night();
        dug.night();
        due.taken(dug, "what is DUG, by 0", dug.within(0, 0, 0), 3);
        due.taken(dug, "from what isn't", dug.within(0, 1, 0), 4);
    }

    private static void deafCells(Due due) {
        CounterMine m = Due.of(SHORT);
        due.taken(m, "deaf", m.deaf(), 3);
        m.move(0, 3, 2);
        due.taken(m, "MOVED", m.deaf(), 3);
        m.move(0, 1, 2);
        due.taken(m, "MOVED", m.deaf(), 1);
        CounterMine no = Due.of(HEAD + "row sr;row ss;wall 0 0");
        due.taken(no, "no drum", no.deaf(), 3);
        CounterMine two = Due.of(HEAD + "row ssss;row rrrr;wall 0 0;drum d 0 0;drum e 3 0");
        due.taken(two, "two drums", two.deaf(), 0);
    }

    private static void cuts(Due due) {
        CounterMine m = Due.of(SHORT);
        due.taken(m, "cut(0)", m.cut(0), 2);
        due.taken(m, "at the wall", m.cut(1), -2);
        m.night();
        due.taken(m, "next to it", m.cut(1), -2);
        due.refused(m, "cut(2)", m.cut(2), -1, 1);
        due.refused(m, "cut(-1)", m.cut(-1), -1, 1);
        CounterMine no = Due.of(HEAD + "row srs;row srs;wall 0 0;dig a miners 2 0 s");
        due.taken(no, "no way already", no.cut(0), 0);
        CounterMine four = Due.of(HEAD + "row sssss;row sssss;row sssss;row sssss;row sssss;row sssss;wall 1 1;"
                + "dig a miners 3 4 n");
        due.taken(four, "4", four.cut(0), 4);
        four.charge(2, 2, 2);
        due.taken(four, "BROKEN or not", four.cut(0), 4);
        CounterMine three = Due.of(HEAD + "row sssss;row sssss;row srrrr;row sssss;row sssss;wall 3 0;dig a miners 2 4 n");
        due.taken(three, "1 at a strait", three.cut(0), 1);
        CounterMine edge = Due.of(HEAD + "row sssss;row sssss;row sssss;row sssss;row sssss;wall 2 0;dig a miners 2 4 n");
        due.taken(edge, "3", edge.cut(0), 3);
        // The first way found runs through the middle: it must be turned back to find the second one.
        CounterMine turn = Due.of(HEAD + "row srsss;row sssrs;row rsrrs;row sssss;wall 4 3;dig a miners 0 0 s");
        due.taken(turn, "1", turn.cut(0), 1);
        CounterMine cross = Due.of(HEAD + "row sssr;row srss;row ssrs;row rsss;wall 3 3;dig a miners 0 0 s");
        due.taken(cross, "2", cross.cut(0), 2);
    }

    private static void blasts(Due due) {
        CounterMine m = Due.of(HEAD + "row ssrs;row ssss;row ssss;wall 0 0;dig a miners 0 0 s;dig b garrison 2 1 e;"
                + "dig c miners 2 1 w;dig d garrison 3 2 w");
        due.taken(m, "blast 0", m.blast(2, 1, 0), 6);
        due.taken(m, "blast 1", m.blast(2, 2, 1), 14);
        due.taken(m, "blast 2", m.blast(1, 1, 2), 7);
        due.taken(m, "blast 2", m.blast(3, 0, 2), 14);
        due.taken(m, "none", m.blast(0, 2, 0), 0);
        due.taken(m, "nothing has been done", m.cell(2, 1, 3), 0);
        due.refused(m, "rock", m.blast(2, 0, 3), -1, 1);
        due.refused(m, "out", m.blast(4, 0, 0), -1, 1);
        due.refused(m, "out", m.blast(0, -1, 0), -1, 1);
        due.refused(m, "r", m.blast(0, 0, 3), -1, 2);
        due.refused(m, "r", m.blast(0, 0, -1), -1, 2);
        m.charge(2, 1, 0);
        due.taken(m, "not SHUT ones", m.blast(2, 2, 1), 8);
    }

    private static void bestBlasts(Due due) {
        CounterMine m = Due.of(SHORT);
        due.taken(m, "bestBlast(0)", m.bestBlast(0), 20);
        due.taken(m, "bestBlast(1)", m.bestBlast(1), 10);
        due.taken(m, "bestBlast(2)", m.bestBlast(2), 0);
        m.charge(0, 2, 0);
        due.taken(m, "SHUT ones don't count", m.bestBlast(2), 0);
        due.refused(m, "bestBlast(3)", m.bestBlast(3), -1, 2);
        due.refused(m, "bestBlast(-1)", m.bestBlast(-1), -1, 2);
        CounterMine rock = Due.of(HEAD + "row rrss;row ssss;wall 3 0");
        due.taken(rock, "the first one isn't rock", rock.bestBlast(0), 2);
        CounterMine two = Due.of(HEAD + "row ssssss;row ssssss;wall 3 0;dig a garrison 1 0 e;dig b miners 0 0 e;"
                + "dig c miners 5 1 w;dig d miners 4 0 e");
        due.taken(two, "less garrison's", two.bestBlast(1), 5);
        due.taken(two, "the first", two.bestBlast(0), 0);
        due.taken(two, "2", two.bestBlast(2), 4);
        CounterMine foe = Due.of(HEAD + "row ss;row ss;wall 0 0;dig a garrison 0 0 e;dig b garrison 1 1 n");
        due.taken(foe, "fewest garrison's", foe.bestBlast(0), 1);
        due.taken(foe, "all alike below 0", foe.bestBlast(2), 0);
    }
}
