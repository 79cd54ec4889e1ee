import java.util.function.LongSupplier;

/** Promises 47 to 49: galleries led to their ends, sizes and trouble. */
public final class ToldTest {
    private static final String TEXT = "field reach 4 error 2 pace 3 falls 17;row sscss;row sgrss;row sssss;wall 3 0;"
            + "drum d 0 0;drum e 3 2;drum f 0 0;dig a miners 0 2 eee;dig b garrison 3 0 ssw;dig c garrison 0 0 e;"
            + "dig k miners 1 2 w;heard d 3 4;heard e 9 1";

    public static void main(String[] args) {
        Due due = new Due("ToldTest");
        ledOnes(due);
        sizes(due);
        troubles(due);
        notRefused(due);
        due.end();
    }

    private static void ledOnes(Due due) {
        CounterMine m = Due.of(TEXT);
        due.led(m, 0, -1);
        m.night();
        due.led(m, 0, 2);
        due.led(m, 1, 3);
        due.led(m, 2, -1);
        due.led(m, -1, -1);
        m.charge(3, 1, 0);
        due.led(m, 0, 1);
        due.led(m, 1, 2);
        due.led(m, 2, 3);
        due.led(m, 3, -1);
        m.dug();
        m.field(1);
        due.led(m, 4, -1);
        due.is("led() is no call that may be refused", m.trouble(), 2);
        boolean thrown = false;
        try {
            m.led(4);
        } catch (java.util.NoSuchElementException none) {
            thrown = none.getClass() == java.util.NoSuchElementException.class;
        }
        due.is("led(4) throws", thrown, true);
    }

    private static void sizes(Due due) {
        CounterMine m = Due.of(TEXT);
        int[] at = {4, 2, 3, 17, 5, 3, 3, 4, 2, 0, 0, 0, 0};
        for (int what = 0; what < at.length; what++) {
            due.is("size(" + what + ")", m.size(what), at[what]);
        }
        m.night();
        m.night();
        m.undo();
        m.charge(0, 0, 0);
        m.image();
        m.image();
        m.feed(0, 0, 0, 0, 0);
        due.is("size(9)", m.size(9), 1);
        due.is("size(10)", m.size(10), 2);
        due.is("size(11)", m.size(11), 2);
        due.is("size(12)", m.size(12), 20);
        m.image();
        m.image();
        due.is("size(13)", m.size(13), -1);
        due.is("size(-1)", m.size(-1), -1);
        due.is("size(MIN)", m.size(Integer.MIN_VALUE), -1);
        due.is("size() is no call that may be refused", m.trouble(), 3);
    }

    /** Each call that may be refused, and isn't: TROUBLE is 0 behind it, whatever it was. */
    private static void notRefused(Due due) {
        CounterMine m = Due.of(TEXT);
        LongSupplier[] calls = {
            () -> m.cell(0, 0, 0), () -> m.gallery(0, 0), () -> m.drum(0), () -> m.dug(), () -> m.far(0, 0, 1, 1),
            () -> m.placeIn(0, 1), () -> m.dugIn(1), () -> m.endsIn(0), () -> m.breaksIn(0, 1), () -> m.firstBreak(),
            () -> m.whoBreaks(), () -> m.hears(0, 0), () -> m.heardIn(0), () -> m.nights(0, 0, 2, 1),
            () -> m.quiet(0, 0, 1, 1), () -> m.toWall(0), () -> m.within(0, 0, 0), () -> m.deaf(), () -> m.cut(0),
            () -> m.blast(0, 0, 0), () -> m.bestBlast(0), () -> m.fits(), () -> m.fitAt(0), () -> m.fitWay(0),
            () -> m.beAt(0, 0, 0), () -> m.likely(0), () -> m.oneMore(0), () -> m.oneMoreLeaves(0), () -> m.meets(0, 0),
            () -> m.digs(0, true, true, true), () -> m.rests(0), () -> m.rest(0), () -> m.odds(0, true),
            () -> m.mean(true), () -> m.drawn(0), () -> m.night(), () -> m.charge(0, 0, 0), () -> m.move(0, 1, 0),
            () -> m.undo() ? 1 : 0, () -> m.image(), () -> m.back(0) ? 1 : 0, () -> tell(m),
        };
        for (int i = 0; i < calls.length; i++) {
            m.drum(-1);
            due.is("trouble() ahead of call " + i, m.trouble(), 1);
            calls[i].getAsLong();
            due.is("trouble() behind call " + i, m.trouble(), 0);
        }
    }

    private static long tell(CounterMine m) {
        Due.feed(m, TEXT);
        return m.field(TEXT.length());
    }

    private static void troubles(Due due) {
        CounterMine m = Due.of(TEXT);
        due.is("0", m.trouble(), 0);
        m.drum(3);
        due.is("1", m.trouble(), 1);
        m.placeIn(0, 61);
        due.is("2", m.trouble(), 2);
        m.image();
        m.image();
        m.image();
        m.image();
        due.is("3", m.trouble(), 3);
        m.field(0);
        due.is("4", m.trouble(), 4);
        m.fault();
        m.where();
        m.size(99);
        m.feed(0, 0, 0, 0, 0);
        due.is("4 still", m.trouble(), 4);
        m.move(0, 0, 0);
        due.is("5", m.trouble(), 5);
        m.undo();
        due.is("6", m.trouble(), 6);
        m.breaksIn(0, 1);
        due.is("0 again", m.trouble(), 0);
        m.drum(3);
        m.nights(2, 1, 0, 0);
        due.is("-2 isn't refused", m.trouble(), 0);
        m.drum(3);
        m.digs(10, true, true, true);
        due.is("2", m.trouble(), 2);
        m.odds(0, true);
        due.is("0", m.trouble(), 0);
    }
}
