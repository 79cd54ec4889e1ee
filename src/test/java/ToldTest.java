/** Promises 47 to 49: galleries led to their ends, sizes and trouble. */
public final class ToldTest {
    private static final String TEXT = "field reach 4 error 2 pace 3 falls 17;row sscss;row sgrss;row sssss;wall 3 0;"
            + "drum d 0 0;drum e 3 2;drum f 0 0;dig a miners 0 2 eee;dig b garrison 3 0 ssw;dig c garrison 0 0 e;"
            + "dig k miners 1 2 w;heard d 3 4;heard e 9 1";

    public static void main(String[] args) {
        Due due = new Due("ToldTest");
        ledOnes(due);
        sizes(due);
        troubles(due);
        due.end();
    }

    private static void ledOnes(Due due) {
        CounterMine m = Due.of(TEXT);
        due.led(m, 0, -1);
        m.night();
        due.led(m, 0, 2);
        due.led(m, 1, 3);
        due.led(m, 2, -1);
        due.led(m, -1, -1);
        m.charge(3, 1, 0);
        due.led(m, 0, 1);
        due.led(m, 1, 2);
        due.led(m, 2, 3);
        due.led(m, 3, -1);
        m.dug();
        m.field(1);
        due.led(m, 4, -1);
        due.is("led() is no call that may be refused", m.trouble(), 2);
        boolean thrown = false;
        try {
            m.led(4);
        } catch (java.util.NoSuchElementException none) {
            thrown = none.getClass() == java.util.NoSuchElementException.class;
        }
        due.is("led(4) throws", thrown, true);
    }

    private static void sizes(Due due) {
        CounterMine m = Due.of(TEXT);
        int[] at = {4, 2, 3, 17, 5, 3, 3, 4, 2, 0, 0, 0, 0};
        for (int what = 0; what < at.length; what++) {
            due.is("size(" + what + ")", m.size(what), at[what]);
        }
        m.night();
        m.night();
        m.undo();
        m.charge(0, 0, 0);
        m.image();
        m.image();
        m.feed(0, 0, 0, 0, 0);
        due.is("size(9)", m.size(9), 1);
        due.is("size(10)", m.size(10), 2);
        due.is("size(11)", m.size(11), 2);
        due.is("size(12)", m.size(12), 20);
        m.image();
        m.image();
        due.is("size(13)", m.size(13), -1);
        due.is("size(-1)", m.size(-1), -1);
        due.is("size(MIN)", m.size(Integer.MIN_VALUE), -1);
        due.is("size() is no call that may be refused", m.trouble(), 3);
    }

    private static void troubles(Due due) {
        CounterMine m = Due.of(TEXT);
        due.is("0", m.trouble(), 0);
        m.drum(3);
        due.is("1", m.trouble(), 1);
        m.placeIn(0, 61);
        due.is("2", m.trouble(), 2);
        m.image();
        m.image();
        m.image();
        m.image();
        due.is("3", m.trouble(), 3);
        m.field(0);
        due.is("4", m.trouble(), 4);
        m.fault();
        m.where();
        m.size(99);
        m.feed(0, 0, 0, 0, 0);
        due.is("4 still", m.trouble(), 4);
        m.move(0, 0, 0);
        due.is("5", m.trouble(), 5);
        m.undo();
        due.is("6", m.trouble(), 6);
        m.breaksIn(0, 1);
        due.is("0 again", m.trouble(), 0);
        m.drum(3);
        m.nights(2, 1, 0, 0);
        due.is("-2 isn't refused", m.trouble(), 0);
        m.drum(3);
        m.digs(10, true, true, true);
        due.is("2", m.trouble(), 2);
        m.odds(0, true);
        due.is("0", m.trouble(), 0);
    }
}
