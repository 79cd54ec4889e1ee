/** The bounds that promises 27 to 34 and FITS name, each with its neighbours. */
public final class SecretBoundsTest {
    private static final String ALL = "row ssssssss;".repeat(8) + "wall 0 0";

    public static void main(String[] args) {
        Due due = new Due("SecretBoundsTest");
        mostFits(due);
        numbersOfFits(due);
        nightsOfFits(due);
        noFits(due);
        paces(due);
        errors(due);
        farthestHeard(due);
        everyHeardCounts(due);
        rockNext(due);
        edgeNext(due);
        firstOfMany(due);
        meetsByNumbers(due);
        meetsBySixty(due);
        due.end();
    }

    private static String head(int error, int pace) {
        return "field reach 1 error " + error + " pace " + pace + " falls 0;";
    }

    /** 64 CELLS, 5 ways. */
    private static void mostFits(Due due) {
        Bound b = new Bound(due, head(0, 1) + ALL);
        CounterMine m = b.mine;
        b.asked("fits", () -> m.fits(), 320);
        int[][] some = {{0, 0, 0}, {1, 0, 1}, {4, 0, 4}, {5, 1, 0}, {39, 7, 4}, {40, 10, 0}, {318, 77, 3}, {319, 77, 4}};
        for (int[] one : some) {
            b.asked("fitAt(" + one[0] + ")", () -> m.fitAt(one[0]), one[1]);
            b.asked("fitWay(" + one[0] + ")", () -> m.fitWay(one[0]), one[2]);
        }
        b.asked("each stays on night 0", () -> m.beAt(7, 7, 0), 5);
        b.asked("all that go east or stay", () -> m.beAt(7, 0, 60), 8 + 8 + 1);
        b.asked("likely, the first corner", () -> m.likely(60), 0);
        b.asked("likely on night 0", () -> m.likely(0), 0);
    }

    /** "NONE: 1 (i, too)" */
    private static void numbersOfFits(Due due) {
        String[] texts = {ALL, "row ss;row sr;wall 0 0", "row rs;row rr;wall 1 0;drum d 1 0;heard d 0 0"};
        int[] fits = {320, 15, 5};
        for (int i = 0; i < texts.length; i++) {
            Bound b = new Bound(due, head(0, 1) + texts[i]);
            b.asked("fits", () -> b.mine.fits(), fits[i]);
            b.numbers("fitAt", 0, fits[i] - 1, -1, 1, n -> b.mine.fitAt(n));
            b.numbers("fitWay", 0, fits[i] - 1, -1, 1, n -> b.mine.fitWay(n));
        }
        Bound one = new Bound(due, head(0, 1) + "row sss;row rrr;wall 0 0;drum d 0 0;heard d 0 0;heard d 1 1");
        one.asked("one FIT", () -> one.mine.fits(), 1);
        one.numbers("fitAt", 0, 0, -1, 1, n -> one.mine.fitAt(n));
        one.numbers("fitWay", 0, 0, -1, 1, n -> one.mine.fitWay(n));
        one.asked("its way", () -> one.mine.fitWay(0), 2);
        one.asked("one is left", () -> one.mine.oneMoreLeaves(0), 1);
    }

    /** "on night n (0 .. 60)"; "2 (0 .. 60)" */
    private static void nightsOfFits(Due due) {
        Bound b = new Bound(due, head(0, 1) + "row sssss;row srsss;wall 0 0;drum d 0 0;heard d 3 3");
        CounterMine m = b.mine;
        b.numbers("beAt", 0, 60, -1, 2, n -> m.beAt(3, 0, n));
        b.numbers("likely", 0, 60, -1, 2, n -> m.likely(n));
        b.numbers("oneMore", 0, 60, -1, 2, n -> m.oneMore(n));
        b.numbers("oneMoreLeaves", 0, 60, -1, 2, n -> m.oneMoreLeaves(n));
        b.refused("beAt, both wrong", () -> m.beAt(5, 0, 61), 1);
    }

    /** "-2 no FITS": at the ends of 0 .. 60; beyond them it is refused all the same. */
    private static void noFits(Due due) {
        Bound b = new Bound(due, head(3, 1) + "row ss;row ss;wall 0 0;drum d 0 0;heard d 0 6;dig a miners 0 0 e");
        CounterMine m = b.mine;
        b.asked("fits", () -> m.fits(), 0);
        b.noNumbers("fitAt", 0, -1, -1, 1, n -> m.fitAt(n));
        b.refused("fitAt(0)", () -> m.fitAt(0), 1);
        b.refused("fitWay(0)", () -> m.fitWay(0), 1);
        b.refused("meets(0, 0)", () -> m.meets(0, 0), 1);
        int[] nights = {0, 1, 59, 60};
        for (int n : nights) {
            b.asked("beAt", () -> m.beAt(1, 1, n), 0);
            b.asked("likely", () -> m.likely(n), -2);
            b.asked("oneMore", () -> m.oneMore(n), -2);
            b.asked("oneMoreLeaves", () -> m.oneMoreLeaves(n), -2);
        }
        b.noNumbers("beAt", 0, 60, -1, 2, n -> m.beAt(0, 0, n));
        b.noNumbers("likely", 0, 60, -1, 2, n -> m.likely(n));
        b.noNumbers("oneMore", 0, 60, -1, 2, n -> m.oneMore(n));
        b.noNumbers("oneMoreLeaves", 0, 60, -1, 2, n -> m.oneMoreLeaves(n));
        Bound some = new Bound(due, head(3, 1) + "row ss;row ss;wall 0 0;drum d 0 0;heard d 0 5");
        some.asked("one less FAR: 2 FAR and 3 wrong", () -> some.mine.fits(), 5);
    }

    /** "(pace, 2 paces .. nights behind night 0)": the nights of each pace and those next to them, up to the 60th. */
    private static void paces(Due due) {
        for (int pace = 1; pace <= 9; pace++) {
            Bound b = new Bound(due, head(0, pace) + "row ssssssss;row rrrrrrrr;wall 0 0;drum d 0 0;heard d 0 0");
            CounterMine m = b.mine;
            due.is("fits", m.fits(), 5);
            for (int n = 0; n <= 60; n++) {
                int at = Math.min(7, n / pace);
                for (int x = 0; x < 8; x++) {
                    due.is("beAt(" + x + ", 0, " + n + ") by pace " + pace, m.beAt(x, 0, n), (x == at ? 1 : 0) + (x == 0 ? 4 : 0));
                }
            }
            int[] nights = {pace - 1, pace, pace + 1, 2 * pace - 1, 2 * pace, 7 * pace - 1, 7 * pace, 60};
            for (int night : nights) {
                if (night <= 60) {
                    int far = Math.min(7, night / pace);
                    String heard = "row ssssssss;row rrrrrrrr;wall 0 0;drum d 0 0;heard d 0 0;"
                            + (night == 0 ? "" : "heard d " + night + " " + far + ";") + "drum e 7 0";
                    due.is("heard on night " + night, Due.of(head(0, pace) + heard).fits(), far == 0 ? 5 : 1);
                }
            }
        }
    }

    /** "it is wrong by error at most": by less, by just that, by one more; too near and too far. */
    private static void errors(Due due) {
        for (int error = 0; error <= 3; error++) {
            for (int told = 0; told <= 14; told++) {
                int want = 0;
                for (int far = 0; far < 8; far++) {
                    want += Math.abs(far - told) <= error ? 5 : 0;
                }
                Bound b = new Bound(due, head(error, 1) + "row ssssssss;row rrrrrrrr;wall 0 0;drum d 0 0;heard d 0 " + told);
                b.asked("fits of error " + error + ", told " + told, () -> b.mine.fits(), want);
            }
        }
    }

    private static void farthestHeard(Due due) {
        Bound b = new Bound(due, head(0, 1) + ALL + ";drum d 0 0;drum e 7 7;heard d 0 14;heard e 0 0");
        CounterMine m = b.mine;
        b.asked("fits", () -> m.fits(), 5);
        b.asked("fitAt", () -> m.fitAt(0), 77);
        due.is("move", m.move(0, 7, 7), 0);
        due.is("move", m.move(1, 0, 0), 77);
        b.asked("where that was told, MOVED or not", () -> m.fits(), 5);
        b.asked("fitAt", () -> m.fitAt(4), 77);
        Bound no = new Bound(due, head(0, 1) + ALL + ";drum d 0 0;drum e 7 7;heard d 0 14;heard e 0 1");
        no.asked("no fits", () -> no.mine.fits(), 0);
        Bound near = new Bound(due, head(1, 1) + ALL + ";drum d 0 0;drum e 7 7;heard d 0 14;heard e 0 0");
        near.asked("by error 1", () -> near.mine.fits(), 15);
    }

    /** Six may be told: any one of them that can't have been leaves no FITS. */
    private static void everyHeardCounts(Due due) {
        for (int wrong = -1; wrong < 6; wrong++) {
            String text = head(0, 1) + "row sr;row rr;wall 0 0;drum d 0 0;drum e 0 0";
            for (int i = 0; i < 6; i++) {
                text += ";heard " + (i % 2 == 0 ? "d " : "e ") + i * 12 + (i == wrong ? " 1" : " 0");
            }
            Bound b = new Bound(due, text);
            due.is("size(8)", b.mine.size(8), 6);
            b.asked("fits, all told right but " + wrong, () -> b.mine.fits(), wrong == -1 ? 5 : 0);
        }
    }

    /** "till rock .. is next": it stays there for ever. */
    private static void rockNext(Due due) {
        Bound b = new Bound(due, head(0, 2) + "row sssrs;row rrrrr;wall 0 0;drum d 0 0;heard d 0 1;heard d 2 2");
        CounterMine m = b.mine;
        b.asked("fits", () -> m.fits(), 1);
        b.asked("way", () -> m.fitWay(0), 2);
        b.asked("on night 1", () -> m.beAt(1, 0, 1), 1);
        b.asked("on night 2", () -> m.beAt(2, 0, 2), 1);
        b.asked("on night 4", () -> m.beAt(2, 0, 4), 1);
        b.asked("on night 60", () -> m.beAt(2, 0, 60), 1);
        b.asked("no rock", () -> m.beAt(3, 0, 60), 0);
        b.asked("not behind it", () -> m.beAt(4, 0, 60), 0);
        Bound start = new Bound(due, head(0, 1) + "row rs;row rr;wall 1 0");
        start.asked("none begins in rock", () -> start.mine.fits(), 5);
        start.asked("all stay", () -> start.mine.beAt(1, 0, 60), 5);
    }

    /** "or the field's end is next": not round it to the next row, in fields of 8 and of fewer. */
    private static void edgeNext(Due due) {
        int[] widths = {2, 5, 8};
        for (int width : widths) {
            String row = "row " + "s".repeat(width) + ";";
            Bound b = new Bound(due, head(0, 1) + row.repeat(3) + "wall 0 0;drum d " + (width - 1) + " 1;heard d 0 0");
            CounterMine m = b.mine;
            int last = width - 1;
            b.asked("fits", () -> m.fits(), 5);
            b.asked("staying and going east", () -> m.beAt(last, 1, 60), 2);
            b.asked("north", () -> m.beAt(last, 0, 60), 1);
            b.asked("south", () -> m.beAt(last, 2, 60), 1);
            b.asked("west", () -> m.beAt(0, 1, 60), 1);
            b.asked("none round the edge", () -> m.beAt(0, 2, 60), 0);
        }
    }

    /** "the first such (y by y, x by x)" of likely and of ONE MORE DRUM, the last CELL among them. */
    private static void firstOfMany(Due due) {
        Bound last = new Bound(due, head(0, 1) + ALL + ";drum d 7 7;heard d 0 0");
        last.asked("the last CELL", () -> last.mine.likely(0), 77);
        last.asked("staying, south and east", () -> last.mine.beAt(7, 7, 60), 3);
        last.asked("the last CELL still", () -> last.mine.likely(60), 77);
        last.asked("all 5 left on night 0", () -> last.mine.oneMoreLeaves(0), 5);
        last.asked("the first CELL", () -> last.mine.oneMore(0), 0);
        Bound two = new Bound(due, head(0, 1) + "row srs;row rrr;wall 0 0");
        two.asked("two alike", () -> two.mine.likely(0), 0);
        two.asked("parted by any", () -> two.mine.oneMoreLeaves(0), 5);
        two.asked("the first", () -> two.mine.oneMore(0), 0);
        Bound rock = new Bound(due, head(0, 1) + "row rsr;row srs;row rsr;wall 1 0;drum d 1 0;heard d 0 2");
        rock.asked("of three, 2 FAR from 1 0", () -> rock.mine.fits(), 15);
        rock.asked("not from 1 0, from which all are 2 FAR", () -> rock.mine.oneMore(0), 10);
        rock.asked("10 left", () -> rock.mine.oneMoreLeaves(0), 10);
    }

    /** "NONE: 1 (i, too)" */
    private static void meetsByNumbers(Due due) {
        Bound b = new Bound(due, head(0, 1) + "row sss;row sss;wall 0 0;dig a miners 0 0 e;dig b garrison 2 1 w");
        CounterMine m = b.mine;
        b.numbers("meets, gallery", 0, 1, -1, 1, g -> m.meets(g, 0));
        b.numbers("meets, FIT", 0, 29, -1, 1, i -> m.meets(1, i));
        b.refused("both wrong", () -> m.meets(2, 30), 1);
        b.asked("where it is", () -> m.meets(0, 0), 0);
        b.asked("one off, staying", () -> m.meets(0, 5), 1);
    }

    /** "Behind how many nights (0 .. 60)": 60 and 61 nights off a pick that stays. */
    private static void meetsBySixty(Due due) {
        String snake = "gggggg;row rrrrrrrg;row gggggggg;row grrrrrrr;row gggggggg;wall 0 0;dig a miners 0 0 e";
        meetsAt(due, head(0, 1) + "row gg" + snake, 41, 57, 57);
        meetsAt(due, head(0, 1) + "row gg" + snake, 42, 60, 60);
        meetsAt(due, head(0, 1) + "row gg" + snake, 43, 63, -2);
        meetsAt(due, head(0, 1) + "row gs" + snake, 42, 58, 58);
        meetsAt(due, head(0, 1) + "row gs" + snake, 43, 61, -2);
        meetsAt(due, head(0, 1) + "row gc" + snake, 42, 59, 59);
        meetsAt(due, head(0, 1) + "row gc" + snake, 43, 62, -2);
    }

    private static void meetsAt(Due due, String text, int cell, int nights, int want) {
        Bound b = new Bound(due, text);
        CounterMine m = b.mine;
        b.asked("nights", () -> m.nights(0, 0, cell % 10, cell / 10), nights);
        int seen = 0;
        for (int i = 0; i < m.fits(); i++) {
            int fit = i;
            if (m.fitAt(i) == cell && m.fitWay(i) == 0) {
                b.asked("meets at " + cell, () -> m.meets(0, fit), want);
                seen++;
            }
        }
        due.is("one such FIT", seen, 1);
    }
}
