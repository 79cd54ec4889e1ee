/** Promises 11 to 18: where galleries are on nights to come, who breaks in on whom, which drums hear whom. */
public final class NightsTest {
    private static final String SHORT = "field reach 3 error 0 pace 2 falls 50;row sscs;row sgrs;row ssss;wall 3 0;"
            + "drum d 0 0;dig a miners 0 2 eee;dig b garrison 3 0 ssw";
    private static final String HEAD = "field reach 2 error 0 pace 1 falls 0;";

    public static void main(String[] args) {
        Due due = new Due("NightsTest");
        places(due);
        soils(due);
        begunBeforeDug(due);
        meanwhile(due);
        bothInOneNight(due);
        ends(due);
        breaks(due);
        firstBreaks(due);
        hearing(due);
        wrongNumbers(due);
        due.end();
    }

    private static void places(Due due) {
        CounterMine m = Due.of(SHORT);
        int[] ofA = {20, 21, 22, 23, 23};
        int[] ofB = {3, 13, 23, 22, 22};
        int[] dug = {2, 4, 6, 6, 6};
        for (int n = 0; n < 5; n++) {
            due.taken(m, "placeIn(0, " + n + ")", m.placeIn(0, n), ofA[n]);
            due.taken(m, "placeIn(1, " + n + ")", m.placeIn(1, n), ofB[n]);
            due.taken(m, "dugIn(" + n + ")", m.dugIn(n), dug[n]);
        }
        due.taken(m, "placeIn(0, 60)", m.placeIn(0, 60), 23);
        due.taken(m, "nothing has been done", m.gallery(0, 1), 20);
        m.night();
        for (int n = 0; n < 4; n++) {
            due.taken(m, "from NOW on, placeIn(0, " + n + ")", m.placeIn(0, n), ofA[n + 1]);
            due.taken(m, "from NOW on, dugIn(" + n + ")", m.dugIn(n), dug[n + 1]);
        }
    }

    /** Sand 1, clay 2, gravel 3, back through what is dug 1 each. */
    private static void soils(Due due) {
        CounterMine m = Due.of(HEAD + "row scgs;row ssss;wall 0 1;dig a miners 0 0 eeewww");
        int[] at = {0, 0, 1, 1, 1, 2, 3, 2, 1, 0, 0};
        for (int n = 0; n < at.length; n++) {
            due.taken(m, "placeIn(0, " + n + ")", m.placeIn(0, n), at[n]);
        }
        due.taken(m, "endsIn", m.endsIn(0), 9);
        due.taken(m, "dugIn", m.dugIn(60), 4);
        due.taken(m, "charge", m.charge(3, 0, 2), 0);
        int[] then = {0, 0, 1, 1, 1, 1, 2, 2, 3, 2, 1, 0};
        for (int n = 0; n < then.length; n++) {
            due.taken(m, "BROKEN ahead, placeIn(0, " + n + ")", m.placeIn(0, n), then[n]);
        }
    }

    /** The nights a cell takes are those of when it is begun, though another digs it meanwhile. */
    private static void begunBeforeDug(Due due) {
        CounterMine m = Due.of(HEAD + "row sgs;row sgs;wall 0 1;dig a miners 0 0 e;dig b miners 2 0 we;dig c miners 1 1 n");
        m.night();
        m.night();
        due.taken(m, "all begun on night 0", m.night(), 7);
        CounterMine late = Due.of(HEAD + "row sgs;row scs;wall 0 1;dig a miners 0 1 nse;dig b miners 2 1 w;"
                + "dig c miners 0 0 se");
        due.taken(late, "night 1", late.night(), 5);
        due.taken(late, "night 2: b comes to 1 1", late.night(), 3);
        due.taken(late, "a begins at 1 1 when it is DUG", late.gallery(0, 3), 1);
        due.taken(late, "c began when it wasn't", late.gallery(2, 3), 1);
        due.taken(late, "night 3", late.night(), 5);
    }

    /** A charge does not change the nights of a cell that is begun, but of one that isn't. */
    private static void meanwhile(Due due) {
        CounterMine m = Due.of(HEAD + "row sss;row ccc;wall 0 0;dig a miners 0 1 ee;dig b miners 0 0 s");
        due.taken(m, "b: 0 1 is DUG", m.gallery(1, 3), 1);
        due.taken(m, "charge", m.charge(2, 1, 1), 0);
        due.taken(m, "begun ahead of it", m.gallery(0, 3), 2);
        due.taken(m, "endsIn", m.endsIn(0), 5);
        due.taken(m, "night", m.night(), 2);
        due.taken(m, "night", m.night(), 1);
        due.taken(m, "clay and BROKEN", m.gallery(0, 3), 3);
        due.taken(m, "charge again", m.charge(2, 1, 0), 0);
        due.taken(m, "BROKEN once", m.gallery(0, 3), 3);
        due.taken(m, "DUG though BROKEN", m.cell(1, 1, 2), 1);
        due.taken(m, "DUG, no nights", m.cell(1, 1, 1), 0);
        due.taken(m, "BROKEN still", m.cell(1, 1, 3), 1);
    }

    /** All that come do so before any begins at its next one. */
    private static void bothInOneNight(Due due) {
        CounterMine m = Due.of(HEAD + "row sgs;row sgs;wall 0 1;dig a miners 0 1 nsee;dig b miners 2 1 w;dig c miners 2 1 w");
        due.taken(m, "b takes 3 nights", m.gallery(1, 3), 3);
        m.night();
        m.night();
        due.taken(m, "a begins at gravel", m.gallery(0, 3), 3);
        CounterMine both = Due.of(HEAD + "row scc;row sss;wall 0 1;dig a miners 0 1 ne;dig b miners 2 1 wn");
        due.taken(both, "night", both.night(), 3);
        due.taken(both, "a", both.gallery(0, 3), 2);
        CounterMine swap = Due.of(HEAD + "row gs;row ss;wall 0 1;dig a miners 1 1 nw;dig b miners 1 0 w;"
                + "dig c miners 0 1 en");
        swap.night();
        due.taken(swap, "a begins at gravel that b still digs", swap.gallery(0, 3), 3);
        due.taken(swap, "c begins at what was DUG at first", swap.gallery(2, 3), 1);
        CounterMine first = Due.of(HEAD + "row sss;row sss;wall 0 0;dig a miners 0 1 ee;dig b miners 2 1 ww");
        due.taken(first, "b digs 1 1 in the same night", first.night(), 3);
        due.taken(first, "2 1 is DUG", first.gallery(0, 3), 1);
        CounterMine gravel = Due.of(HEAD + "row sgs;row sss;wall 0 0;dig a miners 0 1 ene;dig b miners 0 0 e");
        due.taken(gravel, "night 1", gravel.night(), 1);
        due.taken(gravel, "a at gravel", gravel.gallery(0, 3), 3);
        due.taken(gravel, "night 2", gravel.night(), 0);
        due.taken(gravel, "night 3", gravel.night(), 2);
        due.taken(gravel, "night 4", gravel.night(), 1);
        CounterMine same = Due.of(HEAD + "row sgs;row sss;wall 0 0;dig a miners 1 1 ewn;dig b miners 0 0 e");
        same.night();
        same.night();
        due.taken(same, "a begins at gravel the night before b comes", same.gallery(0, 3), 3);
        CounterMine order = Due.of(HEAD + "row scs;row sss;wall 0 0;dig a miners 1 1 ewn;dig b miners 0 0 e");
        order.night();
        due.taken(order, "a and b come in one night", order.night(), 3);
        due.taken(order, "a begins at what b dug that night", order.gallery(0, 3), 1);
    }

    private static void ends(Due due) {
        CounterMine m = Due.of(SHORT);
        due.taken(m, "endsIn(0)", m.endsIn(0), 3);
        due.taken(m, "endsIn(1)", m.endsIn(1), 3);
        m.charge(3, 0, 0);
        due.taken(m, "endsIn SHUT", m.endsIn(1), 0);
        due.taken(m, "2 3 is not DUG by b now", m.endsIn(0), 3);
        m.night();
        due.taken(m, "endsIn", m.endsIn(0), 2);
        m.night();
        m.night();
        due.taken(m, "endsIn at its WAY's end", m.endsIn(0), 0);
        due.refused(m, "endsIn(2)", m.endsIn(2), -1, 1);
        due.refused(m, "endsIn(-1)", m.endsIn(-1), -1, 1);
    }

    private static void breaks(Due due) {
        CounterMine m = Due.of(SHORT);
        due.taken(m, "breaksIn(0, 1)", m.breaksIn(0, 1), 2);
        due.taken(m, "breaksIn(1, 0)", m.breaksIn(1, 0), 2);
        due.refused(m, "breaksIn(0, 0)", m.breaksIn(0, 0), -1, 1);
        due.refused(m, "breaksIn(0, 2)", m.breaksIn(0, 2), -1, 1);
        due.refused(m, "breaksIn(-1, 0)", m.breaksIn(-1, 0), -1, 1);
        m.charge(0, 2, 0);
        due.taken(m, "SHUT at 0 2, the other one comes to 2 2", m.breaksIn(0, 1), -2);
        CounterMine near = Due.of(HEAD + "row ssss;row ssss;wall 0 0;dig a miners 0 0 e;dig b garrison 3 0 w;dig c miners 3 1 w");
        due.taken(near, "1 FAR", near.breaksIn(0, 1), 1);
        due.taken(near, "at first", near.breaksIn(1, 2), 0);
        due.refused(near, "of one SIDE", near.breaksIn(0, 2), -1, 1);
        near.charge(0, 0, 0);
        due.taken(near, "SHUT, and far", near.breaksIn(0, 1), -2);
        due.taken(near, "SHUT or not", near.breaksIn(1, 2), 0);
    }

    private static void firstBreaks(Due due) {
        CounterMine m = Due.of(SHORT);
        due.taken(m, "firstBreak", m.firstBreak(), 2);
        due.taken(m, "whoBreaks", m.whoBreaks(), 1);
        m.night();
        due.taken(m, "firstBreak from NOW on", m.firstBreak(), 1);
        m.charge(1, 2, 0);
        due.taken(m, "one SHUT: the other comes to it", m.firstBreak(), 2);
        CounterMine four = Due.of(HEAD + "row ssssssss;row ssssssss;wall 0 0;dig a garrison 0 0 e;dig b miners 7 0 w;"
                + "dig c garrison 4 0 ee;dig d miners 7 1 ww");
        due.taken(four, "firstBreak", four.firstBreak(), 1);
        due.taken(four, "the first such two", four.whoBreaks(), 12);
        CounterMine late = Due.of(HEAD + "row ssssssss;row ssssssss;wall 0 0;dig a garrison 0 0 eeee;dig b miners 7 0 w;"
                + "dig c garrison 4 1 ee;dig d miners 7 1 w");
        due.taken(late, "firstBreak", late.firstBreak(), 1);
        due.taken(late, "the first such two", late.whoBreaks(), 23);
        CounterMine none = Due.of(HEAD + "row ssssssss;row ssssssss;wall 0 0;dig a garrison 0 0 e;dig b miners 7 0 w");
        due.taken(none, "firstBreak", none.firstBreak(), -2);
        due.taken(none, "whoBreaks", none.whoBreaks(), -2);
        CounterMine like = Due.of(HEAD + "row ss;row ss;wall 0 0;dig a miners 0 0 e;dig b miners 0 0 e");
        due.taken(like, "of one SIDE", like.firstBreak(), -2);
        due.taken(like, "of one SIDE", like.whoBreaks(), -2);
    }

    private static void hearing(Due due) {
        CounterMine m = Due.of(SHORT);
        due.taken(m, "hears(0, 0)", m.hears(0, 0), 2);
        due.taken(m, "hears(0, 1)", m.hears(0, 1), 3);
        due.taken(m, "hears(0, 2)", m.hears(0, 2), -2);
        due.taken(m, "heardIn(0)", m.heardIn(0), 0);
        due.taken(m, "heardIn(1)", m.heardIn(1), 0);
        m.move(0, 2, 2);
        due.taken(m, "hears, MOVED", m.hears(0, 0), 2);
        due.taken(m, "the nearest", m.hears(0, 1), 1);
        due.taken(m, "the nearest", m.hears(0, 2), 0);
        due.taken(m, "none digs", m.hears(0, 3), -2);
        CounterMine two = Due.of(HEAD + "row ssssssss;row ssssssss;wall 0 0;drum d 4 0;drum e 7 1;dig a garrison 0 0 eee;"
                + "dig b miners 7 0 we;dig c miners 0 1 ew");
        due.taken(two, "heardIn(0)", two.heardIn(0), 2);
        due.taken(two, "heardIn(1)", two.heardIn(1), 0);
        due.taken(two, "heardIn(2)", two.heardIn(2), -2);
        due.taken(two, "its end within reach, but no PICK", two.hears(0, 3), -2);
        due.taken(two, "hears(0, 2)", two.hears(0, 2), 2);
        due.taken(two, "hears(1, 1)", two.hears(1, 1), 2);
        two.charge(7, 0, 0);
        due.taken(two, "SHUT ones have no PICK", two.hears(1, 0), -2);
        due.taken(two, "SHUT ones have no PICK", two.heardIn(1), -2);
        due.refused(two, "heardIn(3)", two.heardIn(3), -1, 1);
        due.refused(two, "heardIn(-1)", two.heardIn(-1), -1, 1);
    }

    private static void wrongNumbers(Due due) {
        CounterMine m = Due.of(SHORT);
        due.refused(m, "placeIn(2, 0)", m.placeIn(2, 0), -1, 1);
        due.refused(m, "placeIn(-1, 99)", m.placeIn(-1, 99), -1, 1);
        due.refused(m, "placeIn(0, 61)", m.placeIn(0, 61), -1, 2);
        due.refused(m, "placeIn(0, -1)", m.placeIn(0, -1), -1, 2);
        due.refused(m, "dugIn(61)", m.dugIn(61), -1, 2);
        due.refused(m, "dugIn(-1)", m.dugIn(-1), -1, 2);
        due.refused(m, "hears(1, 0)", m.hears(1, 0), -1, 1);
        due.refused(m, "hears(-1, 61)", m.hears(-1, 61), -1, 1);
        due.refused(m, "hears(0, 61)", m.hears(0, 61), -1, 2);
        due.refused(m, "hears(0, -1)", m.hears(0, -1), -1, 2);
    }
}
