import java.nio.charset.StandardCharsets;
import java.util.NoSuchElementException;

/** What the tests share: texts fed to a CounterMine, answers held against those that are due. */
final class Due {
    private final String test;
    private int asked = 0;
    private int wrong = 0;

    Due(String test) {
        this.test = test;
    }

    void is(String call, long got, long want) {
        asked++;
        if (got != want) {
            wrong++;
            System.out.println(test + ": " + call + " answered " + got + ", due is " + want);
        }
    }

    void is(String call, boolean got, boolean want) {
        is(call, got ? 1L : 0L, want ? 1L : 0L);
    }

    /** The call has been answered, and by itself was not refused. */
    void taken(CounterMine mine, String call, long got, long want) {
        is(call, got, want);
        is("trouble() behind " + call, mine.trouble(), 0);
    }

    void refused(CounterMine mine, String call, long got, long want, int trouble) {
        is(call, got, want);
        is("trouble() behind " + call, mine.trouble(), trouble);
    }

    void led(CounterMine mine, int i, int want) {
        int got = CounterMine.NONE;
        try {
            got = mine.led(i);
        } catch (NoSuchElementException none) {
            got = CounterMine.NONE;
        }
        is("led(" + i + ")", got, want);
    }

    /** A text that has a fault: its number and its place. */
    void fault(String text, int number, int place) {
        CounterMine mine = new CounterMine();
        feed(mine, text);
        is("field() of '" + text + "'", mine.field(text.length()), CounterMine.NONE);
        is("trouble() of '" + text + "'", mine.trouble(), 4);
        is("fault() of '" + text + "'", mine.fault(), number);
        is("where() of '" + text + "'", mine.where(), place);
        is("size(12) of '" + text + "'", mine.size(12), 0);
    }

    /** A text that has none. */
    void sound(String text, int galleries) {
        CounterMine mine = new CounterMine();
        feed(mine, text);
        is("field() of '" + text + "'", mine.field(text.length()), galleries);
        is("trouble() of '" + text + "'", mine.trouble(), 0);
        is("fault() of '" + text + "'", mine.fault(), 0);
        is("where() of '" + text + "'", mine.where(), CounterMine.NONE);
    }

    static int feed(CounterMine mine, String text) {
        byte[] bytes = text.getBytes(StandardCharsets.ISO_8859_1);
        int held = mine.size(12);
        for (int from = 0; from < bytes.length; from += 20) {
            held = mine.feed(four(bytes, from), four(bytes, from + 4), four(bytes, from + 8), four(bytes, from + 12),
                    four(bytes, from + 16));
        }
        return held;
    }

    static CounterMine of(String text) {
        CounterMine mine = new CounterMine();
        feed(mine, text);
        if (mine.field(text.length()) == CounterMine.NONE) {
            throw new IllegalStateException("fault " + mine.fault() + " at " + mine.where() + " of " + text);
        }
        return mine;
    }

    private static int four(byte[] bytes, int from) {
        int number = 0;
        for (int i = from; i < from + 4; i++) {
            number = number << 8 | (i < bytes.length ? bytes[i] & 255 : ' ');
        }
        return number;
    }

    void end() {
        System.out.println(test + ": " + asked + " answers, " + wrong + " not as due");
        if (wrong != 0) {
            System.exit(1);
        }
    }
}
