import java.nio.charset.StandardCharsets;
import java.util.NoSuchElementException;

/** What the tests share: texts fed to a CounterMine, answers held against those that are due. */
final class Due {
    private final String test;
    private int asked = 0;
    private int wrong = 0;

    Due(String test) {
        this.test = test;
    }

    void is(String call, long got, long want) {
        asked++;
        if (got != want) {
            wrong++;
            System.out.println(test + ": " + call + " answered " + got + ", due is " + want);
        }
    }

    void is(String call, boolean got, boolean want) {
        is(call, got ? 1L : 0L, want ? 1L : 0L);
    }

    /** The call has been answered, and by itself was not refused. */
    void taken(CounterMine mine, String call, long got, long want) {
        is(call, got, want);
        is("trouble() behind " + call, mine.trouble(), 0);
    }

    void refused(CounterMine mine, String call, long got, long want, int trouble) {
        is(call, got, want);
        is("trouble() behind " + call, mine.trouble(), trouble);
    }

    void led(CounterMine mine, int i, int want) {
        int got = CounterMine.NONE;
        try {
            got = mine.led(i);
        } catch (NoSuchElementException none) {
            got = CounterMine.NONE;
        }
        is("led(" + i + ")", got, want);
    }

    /** A text that has a fault: its number and its place; told to a new object and to one that has a FIELD, which stays. */
    void fault(String text, int number, int place) {
        faultOf(new CounterMine(), text, number, place);
        faultOf(worked(), text, number, place);
    }

    /** Likewise; the place is where ^ stands in the text. */
    void fault(String marked, int number) {
        int place = marked.indexOf('^');
        fault(marked.substring(0, place) + marked.substring(place + 1), number, place);
    }

    private void faultOf(CounterMine mine, String text, int number, int place) {
        String stood = stateOf(mine);
        feed(mine, text);
        is("field() of '" + text + "'", mine.field(text.length()), CounterMine.NONE);
        is("trouble() of '" + text + "'", mine.trouble(), 4);
        is("fault() of '" + text + "'", mine.fault(), number);
        is("where() of '" + text + "'", mine.where(), place);
        is("size(12) of '" + text + "'", mine.size(12), 0);
        is("the FIELD stays behind '" + text + "'", stateOf(mine).equals(stood), true);
    }

    /** A text that has none, told likewise. */
    void sound(String text, int galleries) {
        soundOf(new CounterMine(), text, galleries);
        soundOf(worked(), text, galleries);
    }

    private void soundOf(CounterMine mine, String text, int galleries) {
        feed(mine, text);
        is("field() of '" + text + "'", mine.field(text.length()), galleries);
        is("trouble() of '" + text + "'", mine.trouble(), 0);
        is("fault() of '" + text + "'", mine.fault(), 0);
        is("where() of '" + text + "'", mine.where(), CounterMine.NONE);
        is("size(7) of '" + text + "'", mine.size(7), galleries);
        for (int what = 9; what <= 12; what++) {
            is("size(" + what + ") of '" + text + "'", mine.size(what), 0);
        }
    }

    /** A sound text, and one of the sizes that it tells. */
    void sized(String text, int galleries, int what, int size) {
        sound(text, galleries);
        is("size(" + what + ") of '" + text + "'", of(text).size(what), size);
    }

    /** An object with a FIELD, a night gone by, a charge and an IMAGE. */
    static CounterMine worked() {
        CounterMine mine = of("field reach 2 error 1 pace 3 falls 4;row sss;row srs;row ccc;wall 0 0;drum d 0 0;"
                + "dig a miners 0 0 ee;dig b garrison 2 2 nn;heard d 0 0");
        mine.night();
        mine.charge(2, 1, 1);
        mine.image();
        return mine;
    }

    /** All that is NOW, THE TAPE aside, as one text; TROUBLE is lost by asking for it. */
    static String stateOf(CounterMine mine) {
        StringBuilder all = new StringBuilder();
        for (int what = 0; what < 12; what++) {
            all.append(mine.size(what)).append(' ');
        }
        for (int i = 0; i < mine.size(4) * mine.size(5) * 5; i++) {
            all.append(mine.cell(i / 5 % mine.size(4), i / 5 / mine.size(4), i % 5)).append(' ');
        }
        for (int i = 0; i < mine.size(7) * 6; i++) {
            all.append(mine.gallery(i / 6, i % 6)).append(' ');
        }
        for (int d = 0; d < mine.size(6); d++) {
            all.append(mine.drum(d)).append(' ');
        }
        for (int g = 0; g < mine.size(7); g++) {
            all.append(mine.toWall(g)).append(' ');
        }
        return all.append(mine.fits()).toString();
    }

    static int feed(CounterMine mine, String text) {
        byte[] bytes = text.getBytes(StandardCharsets.ISO_8859_1);
        int held = mine.size(12);
        for (int from = 0; from < bytes.length; from += 20) {
            held = mine.feed(four(bytes, from), four(bytes, from + 4), four(bytes, from + 8), four(bytes, from + 12),
                    four(bytes, from + 16));
        }
        return held;
    }

    static CounterMine of(String text) {
        CounterMine mine = new CounterMine();
        feed(mine, text);
        if (mine.field(text.length()) == CounterMine.NONE) {
            throw new IllegalStateException("fault " + mine.fault() + " at " + mine.where() + " of " + text);
        }
        return mine;
    }

    private static int four(byte[] bytes, int from) {
        int number = 0;
        for (int i = from; i < from + 4; i++) {
            number = number << 8 | (i < bytes.length ? bytes[i] & 255 : ' ');
        }
        return number;
    }

    void end() {
        System.out.println(test + ": " + asked + " answers, " + wrong + " not as due");
        if (wrong != 0) {
            System.exit(1);
        }
    }
}
