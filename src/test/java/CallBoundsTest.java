/** The bounds that promises 6 to 26 name, each with its neighbours; what each call leaves behind is Bound's to look at. */
public final class CallBoundsTest {
    private static final String HEAD = "field reach 2 error 0 pace 1 falls 50;";
    private static final String SMALL = HEAD + "row ss;row ss;row ss;wall 0 0;drum d 1 1;dig a miners 0 2 e;"
            + "dig b garrison 1 0 w;dig c miners 0 0 s";
    private static final String BIG = HEAD + "row ssssssss;".repeat(8) + "wall 0 0;drum p 7 7;drum q 0 7;drum t 7 0;"
            + "drum u 0 0;dig a miners 0 7 eeeeeee;dig b garrison 7 0 sssssss;dig c miners 7 7 nnnnnnnw;dig d garrison 0 0 e";
    /** Soil only at the end of a row and at the beginning of the next one. */
    private static final String ROUND = HEAD + "row rrrrrrss;row ssrrrrrr;row rrrrrrrs;row srrrrrrr;wall 0 1;"
            + "drum d 7 0;dig a miners 7 0 w;dig b garrison 0 1 e";

    public static void main(String[] args) {
        Due due = new Due("CallBoundsTest");
        cellsOfTheField(due);
        galleriesAndDrums(due);
        whats(due);
        nightsToCome(due);
        galleriesOfTwo(due);
        noneSuchAheadOfNumbers(due);
        noneAtAll(due);
        farthest(due);
        nightsOfSoils(due);
        longestWay(due);
        breaksByFar(due);
        hearsByReach(due);
        leastNightsByBounds(due);
        quietByReach(due);
        withinBounds(due);
        deafByReach(due);
        cutsByFar(due);
        blastsByPower(due);
        roundTheEdge(due);
        due.end();
    }

    // ---- what is refused

    /** "NONE: 1 (not in the field)": promises 6, 10, 19, 20, 22, 25, 30. */
    private static void cellsOfTheField(Due due) {
        String[] texts = {SMALL, BIG, HEAD + "row sssss;row sssss;wall 0 0"};
        for (String text : texts) {
            Bound b = new Bound(due, text);
            CounterMine m = b.mine;
            for (int what = 0; what <= 4; what++) {
                int which = what;
                b.cells("cell " + what, (x, y) -> m.cell(x, y, which));
            }
            b.cells("far from", (x, y) -> m.far(x, y, 0, 0));
            b.cells("far to", (x, y) -> m.far(1, 1, x, y));
            b.cells("nights from", (x, y) -> m.nights(x, y, 0, 0));
            b.cells("nights to", (x, y) -> m.nights(1, 1, x, y));
            b.cells("quiet from", (x, y) -> m.quiet(x, y, 0, 0));
            b.cells("quiet to", (x, y) -> m.quiet(1, 1, x, y));
            b.cells("within 0", (x, y) -> m.within(x, y, 0));
            b.cells("within 99", (x, y) -> m.within(x, y, 99));
            b.cells("blast", (x, y) -> m.blast(x, y, 2));
            b.cells("beAt", (x, y) -> m.beAt(x, y, 60));
        }
    }

    /** "NONE: 1": galleries and drums that there are none of; promises 7, 8, 11, 13, 17, 18, 21, 24, 38. */
    private static void galleriesAndDrums(Due due) {
        String[] texts = {SMALL, BIG, HEAD + "row ss;row ss;wall 0 0;drum d 0 0;dig a miners 0 0 e"};
        for (String text : texts) {
            Bound b = new Bound(due, text);
            CounterMine m = b.mine;
            int last = m.size(7) - 1;
            for (int what = 0; what <= 5; what++) {
                int which = what;
                b.numbers("gallery " + what, 0, last, -1, 1, g -> m.gallery(g, which));
            }
            b.numbers("placeIn", 0, last, -1, 1, g -> m.placeIn(g, 0));
            b.numbers("endsIn", 0, last, -1, 1, g -> m.endsIn(g));
            b.numbers("heardIn", 0, last, -1, 1, g -> m.heardIn(g));
            b.numbers("toWall", 0, last, -1, 1, g -> m.toWall(g));
            b.numbers("cut", 0, last, -1, 1, g -> m.cut(g));
            b.numbers("odds upper", 0, last, -1, 1, g -> m.odds(g, false));
            b.numbers("odds lower", 0, last, -1, 1, g -> m.odds(g, true));
            b.numbers("drum", 0, m.size(6) - 1, -1, 1, d -> m.drum(d));
            b.numbers("hears", 0, m.size(6) - 1, -1, 1, d -> m.hears(d, 0));
        }
    }

    private static void whats(Due due) {
        Bound b = new Bound(due, SMALL);
        CounterMine m = b.mine;
        b.numbers("what of a cell", 0, 4, -1, 1, what -> m.cell(1, 2, what));
        b.numbers("what of a gallery", 0, 5, -1, 1, what -> m.gallery(2, what));
    }

    /** "(0 .. 60) .. NONE: .. 2": promises 11, 12, 17; "(0 .. 99)": 22; r: 25, 26. */
    private static void nightsToCome(Due due) {
        String[] texts = {SMALL, BIG};
        for (String text : texts) {
            Bound b = new Bound(due, text);
            CounterMine m = b.mine;
            b.numbers("placeIn", 0, 60, -1, 2, n -> m.placeIn(0, n));
            b.numbers("dugIn", 0, 60, -1, 2, n -> m.dugIn(n));
            b.numbers("hears", 0, 60, -1, 2, n -> m.hears(0, n));
            b.numbers("within", 0, 99, -1, 2, n -> m.within(1, 1, n));
            b.numbers("blast", 0, 2, -1, 2, r -> m.blast(1, 1, r));
            b.numbers("bestBlast", 0, 2, -1, 2, r -> m.bestBlast(r));
        }
    }

    /** "NONE: 1 (unlike; of one SIDE)": promise 14, of all pairs. */
    private static void galleriesOfTwo(Due due) {
        Bound b = new Bound(due, BIG);
        CounterMine m = b.mine;
        int[] all = {Integer.MIN_VALUE, -1, 0, 1, 2, 3, 4, 5, 256, Integer.MAX_VALUE};
        int[] sides = {0, 1, 0, 1};
        for (int g : all) {
            for (int other : all) {
                boolean both = g >= 0 && g < 4 && other >= 0 && other < 4;
                if (both && sides[g] != sides[other]) {
                    due.is("breaksIn(" + g + ", " + other + ") isn't refused", m.breaksIn(g, other) == -1, false);
                    due.is("trouble()", m.trouble(), 0);
                } else {
                    b.refused("breaksIn(" + g + ", " + other + ")", () -> m.breaksIn(g, other), 1);
                }
            }
        }
    }

    /** Of two reasons to refuse a call the one that its promise names first counts. */
    private static void noneSuchAheadOfNumbers(Due due) {
        Bound b = new Bound(due, SMALL);
        CounterMine m = b.mine;
        b.refused("placeIn", () -> m.placeIn(3, 61), 1);
        b.refused("placeIn", () -> m.placeIn(-1, -1), 1);
        b.refused("hears", () -> m.hears(1, 61), 1);
        b.refused("hears", () -> m.hears(-1, -1), 1);
        b.refused("within", () -> m.within(2, 0, 100), 1);
        b.refused("within", () -> m.within(0, 3, -1), 1);
        b.refused("blast", () -> m.blast(2, 0, 3), 1);
        b.refused("beAt", () -> m.beAt(0, 3, 61), 1);
        b.refused("charge", () -> m.charge(0, 3, 3), 1);
        b.refused("charge", () -> m.charge(-1, 0, -1), 1);
        Bound rock = new Bound(due, HEAD + "row sr;row ss;wall 0 0");
        rock.refused("blast at rock", () -> rock.mine.blast(1, 0, 0), 1);
        rock.refused("blast at rock", () -> rock.mine.blast(1, 0, 3), 1);
        rock.refused("charge at rock", () -> rock.mine.charge(1, 0, 0), 1);
        rock.refused("charge at rock", () -> rock.mine.charge(1, 0, 3), 1);
        rock.asked("within from rock", () -> rock.mine.within(1, 0, 99), 0);
        rock.refused("within from rock", () -> rock.mine.within(1, 0, 100), 2);
        rock.asked("beAt rock", () -> rock.mine.beAt(1, 0, 60), 0);
        rock.refused("beAt rock", () -> rock.mine.beAt(1, 0, 61), 2);
    }

    /** A FIELD without galleries, drums and heards: what asks for one is refused, all else isn't. */
    private static void noneAtAll(Due due) {
        Bound b = new Bound(due, HEAD + "row ss;row ss;wall 0 0");
        CounterMine m = b.mine;
        b.refused("gallery", () -> m.gallery(0, 0), 1);
        b.refused("drum", () -> m.drum(0), 1);
        b.refused("placeIn", () -> m.placeIn(0, 0), 1);
        b.refused("endsIn", () -> m.endsIn(0), 1);
        b.refused("breaksIn", () -> m.breaksIn(0, 1), 1);
        b.refused("hears", () -> m.hears(0, 0), 1);
        b.refused("heardIn", () -> m.heardIn(0), 1);
        b.refused("toWall", () -> m.toWall(0), 1);
        b.refused("cut", () -> m.cut(0), 1);
        b.refused("meets", () -> m.meets(0, 0), 1);
        b.refused("odds", () -> m.odds(0, false), 1);
        b.refused("move", () -> m.move(0, 0, 0), 1);
        b.asked("dug", () -> m.dug(), 0);
        b.asked("dugIn(60)", () -> m.dugIn(60), 0);
        b.asked("cell 4", () -> m.cell(0, 0, 4), 0);
        b.asked("firstBreak", () -> m.firstBreak(), -2);
        b.asked("whoBreaks", () -> m.whoBreaks(), -2);
        b.asked("quiet", () -> m.quiet(0, 0, 1, 1), 2);
        b.asked("deaf", () -> m.deaf(), 4);
        b.asked("blast", () -> m.blast(1, 1, 2), 0);
        b.asked("bestBlast", () -> m.bestBlast(2), 0);
        b.asked("fits", () -> m.fits(), 20);
        b.asked("mean", () -> m.mean(false), 0);
        b.asked("mean", () -> m.mean(true), 1);
        b.asked("drawn", () -> m.drawn(0), 0);
        b.done("night", () -> m.night(), 0, 1);
        b.done("charge", () -> m.charge(0, 0, 2), 0, 2);
    }

    // ---- what is answered at the bounds

    private static void farthest(Due due) {
        Bound b = new Bound(due, BIG);
        CounterMine m = b.mine;
        b.asked("far", () -> m.far(0, 0, 0, 0), 0);
        b.asked("far", () -> m.far(7, 7, 7, 7), 0);
        b.asked("far", () -> m.far(0, 0, 7, 7), 14);
        b.asked("far", () -> m.far(7, 0, 0, 7), 14);
        b.asked("far", () -> m.far(7, 0, 0, 1), 8);
        b.asked("drum", () -> m.drum(0), 77);
        b.asked("drum", () -> m.drum(1), 70);
        b.asked("drum", () -> m.drum(2), 7);
        b.asked("drum", () -> m.drum(3), 0);
        b.asked("gallery", () -> m.gallery(2, 1), 77);
    }

    /** "sand 1, clay 2, gravel 3, and 1 more if it is BROKEN; rock never; 0 if it is DUG." */
    private static void nightsOfSoils(Due due) {
        Bound b = new Bound(due, HEAD + "row scgr;row scgr;wall 0 0;dig a miners 0 0 ee");
        CounterMine m = b.mine;
        int[] whole = {0, 2, 3, -2, 1, 2, 3, -2};
        for (int i = 0; i < 8; i++) {
            int at = i;
            b.asked("nights of " + i, () -> m.cell(at % 4, at / 4, 1), whole[i]);
        }
        m.charge(1, 1, 2);
        int[] broken = {2, 3, 4, -2, 2, 3, 4, -2};
        for (int i = 0; i < 8; i++) {
            int at = i;
            b.asked("nights of " + i + " BROKEN", () -> m.cell(at % 4, at / 4, 1), broken[i]);
            b.asked("BROKEN " + i, () -> m.cell(at % 4, at / 4, 3), broken[i] < 0 ? 0 : 1);
            b.asked("DUG " + i, () -> m.cell(at % 4, at / 4, 2), 0);
        }
        m.charge(1, 1, 2);
        b.asked("BROKEN once more", () -> m.cell(1, 1, 1), 3);
    }

    /** A WAY of 8 through BROKEN gravel: the night of its end, those next to it, and the 60th. */
    private static void longestWay(Due due) {
        Bound b = new Bound(due, HEAD + "row gggggggg;row gggggggg;wall 0 0;dig a miners 0 0 eeeeeees;dig b garrison 7 1 n");
        CounterMine m = b.mine;
        // six of gravel, then two that b has dug
        b.asked("endsIn", () -> m.endsIn(0), 20);
        b.asked("breaksIn", () -> m.breaksIn(0, 1), 18);
        m.charge(3, 0, 2);
        m.charge(6, 0, 2);
        b.asked("b is SHUT", () -> m.gallery(1, 4), 1);
        b.asked("a isn't", () -> m.gallery(0, 4), 0);
        // 3 for what was begun ahead of the charges, 4 for each of the seven others
        b.asked("endsIn", () -> m.endsIn(0), 31);
        b.asked("placeIn 26", () -> m.placeIn(0, 26), 6);
        b.asked("placeIn 27", () -> m.placeIn(0, 27), 7);
        b.asked("placeIn 30", () -> m.placeIn(0, 30), 7);
        b.asked("placeIn 31", () -> m.placeIn(0, 31), 17);
        b.asked("placeIn 60", () -> m.placeIn(0, 60), 17);
        b.asked("dugIn 30", () -> m.dugIn(30), 8);
        b.asked("dugIn 31", () -> m.dugIn(31), 9);
        b.asked("dugIn 60", () -> m.dugIn(60), 9);
        b.asked("breaksIn", () -> m.breaksIn(0, 1), 27);
        b.asked("firstBreak", () -> m.firstBreak(), 27);
        b.asked("whoBreaks", () -> m.whoBreaks(), 1);
        b.asked("endsIn of a SHUT one", () -> m.endsIn(1), 0);
        for (int n = 0; n < 31; n++) {
            due.led(m, 0, 1);
            due.led(m, 1, -1);
            m.night();
        }
        b.asked("endsIn", () -> m.endsIn(0), 0);
        b.asked("no next one", () -> m.gallery(0, 3), 0);
        b.asked("all of its WAY", () -> m.gallery(0, 2), 8);
        due.led(m, 0, 0);
        due.led(m, 1, 1);
    }

    /** "BREAK IN if they are 1 FAR or less": 0, 1 and 2 FAR, NOW and later; SHUT ones and those at their ends, too. */
    private static void breaksByFar(Due due) {
        int[][] places = {{0, 0, 0}, {1, 0, 0}, {0, 1, 0}, {2, 0, -2}, {1, 1, -2}, {0, 2, -2}};
        for (int[] place : places) {
            Bound b = new Bound(due, HEAD + "row sssss;row sssss;row sssss;wall 0 0;dig a miners 0 0 ss;dig b garrison "
                    + place[0] + " " + place[1] + " e");
            CounterMine m = b.mine;
            m.charge(0, 0, 2);
            b.asked("both SHUT", () -> m.breaksIn(0, 1), place[2]);
            b.asked("both SHUT", () -> m.breaksIn(1, 0), place[2]);
            b.asked("both SHUT", () -> m.firstBreak(), place[2]);
            b.asked("both SHUT", () -> m.whoBreaks(), place[2] == 0 ? 1 : -2);
        }
        int[] nights = {-2, 2, 2, 2};
        for (int steps = 1; steps <= 3; steps++) {
            Bound b = new Bound(due, HEAD + "row ssssssss;row ssssssss;wall 0 0;dig a miners 0 0 e;dig b garrison 4 0 "
                    + "www".substring(0, steps));
            CounterMine m = b.mine;
            int want = nights[steps - 1];
            b.asked("breaksIn by " + steps, () -> m.breaksIn(0, 1), want);
            b.asked("firstBreak by " + steps, () -> m.firstBreak(), want);
            b.asked("whoBreaks by " + steps, () -> m.whoBreaks(), want < 0 ? -2 : 1);
            m.night();
            b.asked("breaksIn behind a night", () -> m.breaksIn(0, 1), want < 0 ? -2 : 1);
            m.night();
            b.asked("breaksIn behind two", () -> m.breaksIn(0, 1), want < 0 ? -2 : 0);
        }
        Bound last = new Bound(due, HEAD + "row ssssssss;row ssssssss;wall 0 0;dig a miners 0 0 e;dig b miners 2 0 e;"
                + "dig c garrison 7 1 n;dig d miners 7 0 w");
        last.asked("firstBreak of the last two", () -> last.mine.firstBreak(), 0);
        last.asked("whoBreaks of the last two", () -> last.mine.whoBreaks(), 23);
    }

    /** "HEARS a PICK that is no farther than reach": at reach, one farther, at the drum itself; no PICK at its end or SHUT. */
    private static void hearsByReach(Due due) {
        for (int far = 0; far <= 4; far++) {
            String text = "field reach 2 error 0 pace 1 falls 0;row sssssss;row sssssss;wall 0 0;drum d 0 0;dig a miners "
                    + far + " 0 ee";
            Bound b = new Bound(due, text);
            CounterMine m = b.mine;
            b.asked("hears at " + far, () -> m.hears(0, 0), far <= 2 ? far : -2);
            b.asked("hears at " + (far + 1), () -> m.hears(0, 1), far + 1 <= 2 ? far + 1 : -2);
            b.asked("no PICK at its end", () -> m.hears(0, 2), -2);
            b.asked("hears on night 60", () -> m.hears(0, 60), -2);
            b.asked("heardIn at " + far, () -> m.heardIn(0), far <= 2 ? 0 : -2);
            m.charge(far, 0, 0);
            b.asked("no PICK, SHUT", () -> m.hears(0, 0), -2);
            b.asked("heardIn, SHUT", () -> m.heardIn(0), -2);
        }
        Bound to = new Bound(due, "field reach 2 error 0 pace 1 falls 0;row sssssss;row sssssss;wall 0 0;drum d 0 0;"
                + "dig a miners 4 0 ww;dig b miners 4 0 www;dig c miners 3 1 wn");
        to.asked("comes to its end within reach", () -> to.mine.heardIn(0), -2);
        to.asked("goes on from there", () -> to.mine.heardIn(1), 2);
        to.asked("3 FAR and 2 FAR, its end", () -> to.mine.heardIn(2), -2);
        to.asked("hears b", () -> to.mine.hears(0, 2), 2);
        Bound most = new Bound(due, BIG.replace("reach 2", "reach 14"));
        most.asked("reach 14: nearest", () -> most.mine.hears(0, 0), 0);
        most.asked("reach 14: the whole field", () -> most.mine.deaf(), 0);
        Bound all = new Bound(due, "field reach 14 error 0 pace 1 falls 0;" + "row ssssssss;".repeat(8)
                + "wall 0 0;drum d 0 0;dig a miners 7 7 n");
        all.asked("14 FAR", () -> all.mine.hears(0, 0), 14);
        Bound short13 = new Bound(due, "field reach 13 error 0 pace 1 falls 0;" + "row ssssssss;".repeat(8)
                + "wall 0 0;drum d 0 0;dig a miners 7 7 n");
        short13.asked("14 FAR, reach 13", () -> short13.mine.hears(0, 0), -2);
        short13.asked("one deaf", () -> short13.mine.deaf(), 1);
    }

    /** "(0 where one is)"; "-2 there is no way, rock at one of them". */
    private static void leastNightsByBounds(Due due) {
        Bound b = new Bound(due, HEAD + "row srs;row srs;row grc;wall 0 0");
        CounterMine m = b.mine;
        b.asked("where one is", () -> m.nights(0, 0, 0, 0), 0);
        b.asked("where one is, gravel", () -> m.nights(0, 2, 0, 2), 0);
        b.asked("next to it", () -> m.nights(0, 0, 0, 1), 1);
        b.asked("gravel last", () -> m.nights(0, 0, 0, 2), 4);
        b.asked("gravel first", () -> m.nights(0, 2, 0, 0), 2);
        b.asked("no way", () -> m.nights(0, 0, 2, 0), -2);
        b.asked("to rock", () -> m.nights(0, 0, 1, 0), -2);
        b.asked("from rock", () -> m.nights(1, 0, 0, 0), -2);
        b.asked("rock to rock", () -> m.nights(1, 0, 1, 1), -2);
        b.asked("the same rock", () -> m.nights(1, 1, 1, 1), -2);
        b.asked("quiet, the same rock", () -> m.quiet(1, 1, 1, 1), -2);
        Bound apart = new Bound(due, HEAD + "row srs;row srs;wall 0 0;dig a miners 2 0 s;dig b miners 0 0 s;dig c miners 0 1 n");
        apart.asked("toWall, no way", () -> apart.mine.toWall(0), -2);
        apart.asked("toWall, at it", () -> apart.mine.toWall(1), 0);
        apart.asked("toWall, next to it, DUG", () -> apart.mine.toWall(2), 0);
        apart.asked("cut, no way already", () -> apart.mine.cut(0), 0);
        apart.asked("cut, at it", () -> apart.mine.cut(1), -2);
        apart.asked("cut, next to it", () -> apart.mine.cut(2), -2);
    }

    /** "through no CELL, the first and the last, too, that is no farther than reach from a drum" */
    private static void quietByReach(Due due) {
        Bound b = new Bound(due, HEAD + "row ssssss;row rrrrrr;wall 0 0;drum d 0 0");
        CounterMine m = b.mine;
        b.asked("3 FAR and on", () -> m.quiet(3, 0, 5, 0), 2);
        b.asked("from 2 FAR", () -> m.quiet(2, 0, 5, 0), -2);
        b.asked("to 2 FAR", () -> m.quiet(5, 0, 2, 0), -2);
        b.asked("to 3 FAR", () -> m.quiet(5, 0, 3, 0), 2);
        b.asked("where one is, 3 FAR", () -> m.quiet(3, 0, 3, 0), 0);
        b.asked("where one is, 2 FAR", () -> m.quiet(2, 0, 2, 0), -2);
        b.asked("nights all the same", () -> m.nights(2, 0, 5, 0), 3);
        m.move(0, 5, 0);
        b.asked("MOVED", () -> m.quiet(0, 0, 2, 0), 2);
        b.asked("MOVED, 2 FAR", () -> m.quiet(0, 0, 3, 0), -2);
    }

    /** "by n LEAST NIGHTS (0 .. 99) or fewer (itself, too; 0 from rock)": 99 and 100 nights off, and more. */
    private static void withinBounds(Due due) {
        String snake = "row gggggggg;row rrrrrrrg;row gggggggg;row grrrrrrr;row gggggggg;row rrrrrrrg;row gggggggg;row grrrrrrr;";
        Bound b = new Bound(due, HEAD + snake + "wall 0 0");
        CounterMine m = b.mine;
        b.asked("itself", () -> m.within(0, 0, 0), 1);
        b.asked("2", () -> m.within(0, 0, 2), 1);
        b.asked("3", () -> m.within(0, 0, 3), 2);
        b.asked("98", () -> m.within(0, 0, 98), 33);
        b.asked("99", () -> m.within(0, 0, 99), 34);
        b.asked("105 off", () -> m.nights(0, 0, 0, 7), 105);
        b.asked("from the middle all", () -> m.within(0, 4, 99), 36);
        b.asked("from rock", () -> m.within(0, 1, 0), 0);
        b.asked("from rock", () -> m.within(0, 1, 99), 0);
        b.refused("100", () -> m.within(0, 0, 100), 2);
        // one cell of sand: what was 99 and 102 off is 97 and 100 off
        Bound hundred = new Bound(due, HEAD + "row gs" + snake.substring(6) + "wall 0 0");
        hundred.asked("100 off", () -> hundred.mine.nights(0, 0, 0, 6), 100);
        hundred.asked("97 and less", () -> hundred.mine.within(0, 0, 99), 34);
        Bound full = new Bound(due, HEAD + "row ssssssss;".repeat(8) + "wall 0 0");
        full.asked("all but the farthest", () -> full.mine.within(0, 0, 13), 63);
        full.asked("all 64", () -> full.mine.within(0, 0, 14), 64);
        full.asked("all 64", () -> full.mine.within(7, 7, 99), 64);
    }

    private static void deafByReach(Due due) {
        for (int reach = 1; reach <= 14; reach++) {
            int want = 0;
            for (int i = 0; i < 64; i++) {
                want += Math.abs(i % 8 - 1) + i / 8 > reach ? 1 : 0;
            }
            Bound b = new Bound(due, "field reach " + reach + " error 0 pace 1 falls 0;" + "row ssssssss;".repeat(8)
                    + "wall 0 0;drum d 1 0");
            b.asked("deaf by " + reach, () -> b.mine.deaf(), want);
        }
        Bound rock = new Bound(due, "field reach 1 error 0 pace 1 falls 0;row srr;row rrr;row rrs;wall 0 0;drum d 0 0");
        rock.asked("rock aside", () -> rock.mine.deaf(), 1);
        Bound none = new Bound(due, "field reach 14 error 0 pace 1 falls 0;row sr;row rr;wall 0 0");
        none.asked("no drum", () -> none.mine.deaf(), 1);
    }

    /** "-2 it can't be (it is at the wall, or next to it)": 0, 1 and 2 FAR. */
    private static void cutsByFar(Due due) {
        int[][] places = {{2, 2, -2}, {1, 2, -2}, {2, 1, -2}, {3, 2, -2}, {2, 3, -2}, {0, 2, 3}, {1, 1, 4}, {4, 2, 3}, {2, 4, 3},
            {0, 0, 2}, {4, 4, 2}};
        for (int[] place : places) {
            Bound b = new Bound(due, HEAD + "row sssss;row sssss;row sssss;row sssss;row sssss;wall 2 2;dig a miners " + place[0]
                    + " " + place[1] + (place[0] < 4 ? " e" : " w"));
            b.asked("cut at " + place[0] + " " + place[1], () -> b.mine.cut(0), place[2]);
        }
        Bound one = new Bound(due, HEAD + "row sss;row rrr;wall 0 0;dig a miners 2 0 w");
        one.asked("one cell between", () -> one.mine.cut(0), 1);
        one.mine.night();
        one.asked("next to the wall now", () -> one.mine.cut(0), -2);
        Bound most = new Bound(due, HEAD + "row ssssssss;".repeat(8) + "wall 5 5;dig a miners 2 2 e;dig b miners 7 7 w");
        most.asked("four at most", () -> most.mine.cut(0), 4);
        most.asked("from the field's corner", () -> most.mine.cut(1), 2);
    }

    /** "all CELLS no farther than r": 0, 1, 2 FAR and one more. */
    private static void blastsByPower(Due due) {
        for (int r = 0; r <= 2; r++) {
            int power = r;
            for (int far = 0; far <= 3; far++) {
                Bound b = new Bound(due, HEAD + "row ssssssss;row ssssssss;wall 0 0;dig a miners " + far + " 0 e;dig b garrison "
                        + far + " 0 s;dig c miners 7 1 w");
                CounterMine m = b.mine;
                int hit = far <= r ? 3 : 0;
                b.asked("blast " + r + " of " + far + " FAR", () -> m.blast(0, 0, power), hit);
                due.is("charge likewise", m.charge(0, 0, r), hit);
                b.asked("not SHUT ones", () -> m.blast(0, 0, power), 0);
                for (int x = 0; x < 5; x++) {
                    int at = x;
                    b.asked("BROKEN at " + x, () -> m.cell(at, 0, 3), x <= r ? 1 : 0);
                    b.asked("BROKEN at " + x + " 1", () -> m.cell(at, 1, 3), x + 1 <= r ? 1 : 0);
                }
                b.asked("SHUT", () -> m.gallery(0, 4), far <= r ? 1 : 0);
                b.asked("never SHUT", () -> m.gallery(2, 4), 0);
            }
        }
        Bound last = new Bound(due, BIG);
        last.asked("at the last CELL", () -> last.mine.blast(7, 7, 0), 4);
        last.asked("bestBlast 0: the first of two", () -> last.mine.bestBlast(0), 70);
        last.mine.charge(0, 7, 0);
        last.asked("bestBlast 0: the last CELL", () -> last.mine.bestBlast(0), 77);
        last.mine.charge(7, 7, 0);
        last.asked("bestBlast 0: none but garrison's", () -> last.mine.bestBlast(0), 1);
    }

    /** A row's last CELL and the next row's first one are 8 FAR: nothing goes round the field's edge. */
    private static void roundTheEdge(Due due) {
        Bound b = new Bound(due, ROUND);
        CounterMine m = b.mine;
        b.asked("far", () -> m.far(7, 0, 0, 1), 8);
        b.asked("nights", () -> m.nights(7, 0, 0, 1), -2);
        b.asked("nights back", () -> m.nights(0, 1, 7, 0), -2);
        b.asked("within", () -> m.within(7, 0, 99), 2);
        b.asked("within", () -> m.within(0, 1, 99), 2);
        b.asked("toWall", () -> m.toWall(0), -2);
        b.asked("cut", () -> m.cut(0), 0);
        b.asked("breaks", () -> m.breaksIn(0, 1), -2);
        b.asked("hears", () -> m.hears(0, 0), 0);
        b.asked("heardIn", () -> m.heardIn(1), -2);
        b.asked("deaf", () -> m.deaf(), 3);
        b.asked("blast", () -> m.blast(7, 0, 2), 1);
        due.is("charge", m.charge(7, 0, 2), 1);
        b.asked("BROKEN", () -> m.cell(7, 0, 3), 1);
        b.asked("BROKEN 2 south of it", () -> m.cell(7, 2, 3), 1);
        b.asked("not BROKEN", () -> m.cell(0, 1, 3), 0);
        b.asked("not BROKEN", () -> m.cell(1, 1, 3), 0);
        b.asked("not SHUT", () -> m.gallery(1, 4), 0);
    }
}
