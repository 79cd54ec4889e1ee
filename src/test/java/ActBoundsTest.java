/** The bounds that promises 41 to 49 name, each with its neighbours: acts, undoing, images, led, size, trouble. */
public final class ActBoundsTest {
    private static final String TEXT = "field reach 2 error 1 pace 3 falls 4;row sscs;row sgrs;row ssss;wall 3 0;"
            + "drum d 0 0;drum e 3 2;dig a miners 0 2 eee;dig b garrison 3 0 ssw;dig c garrison 0 0 es;heard d 3 2";
    private static final String BIG = "field reach 2 error 1 pace 3 falls 4;" + "row ssssssss;".repeat(8)
            + "wall 3 0;drum p 0 0;drum q 7 7;drum t 0 0;drum u 7 7;dig a miners 0 0 eeeeeee;dig b garrison 7 7 nnnnnnn;"
            + "dig c miners 0 0 s;dig d garrison 7 7 w";

    public static void main(String[] args) {
        Due due = new Due("ActBoundsTest");
        nineHundredNinetyNine(due);
        allFourAsBits(due);
        charges(due);
        chargesAtBounds(due);
        moves(due);
        sixteenKept(due);
        eachUndone(due);
        threeImages(due);
        backAndUndo(due);
        fieldClears(due);
        ledByBounds(due);
        sizes(due);
        troubleOfEach(due);
        due.end();
    }

    /** "3 (999 went by)": the 999th, the 1000th, and once more behind an UNDO and an IMAGE of before. */
    private static void nineHundredNinetyNine(Due due) {
        Bound b = new Bound(due, TEXT);
        CounterMine m = b.mine;
        for (int n = 0; n < 998; n++) {
            due.is("size(9)", m.size(9), n);
            due.is("night isn't refused", m.night() >= 0, true);
        }
        due.is("image", m.image(), 0);
        b.done("the 999th night", () -> m.night(), 0, 16);
        due.is("size(9)", m.size(9), 999);
        b.refused("the 1000th night", () -> m.night(), 3);
        b.refused("the 1000th night again", () -> m.night(), 3);
        b.done("a charge all the same", () -> m.charge(0, 0, 0), 0, 16);
        b.refused("the 1000th night still", () -> m.night(), 3);
        due.is("undo of the charge", m.undo(), true);
        due.is("undo of the 999th", m.undo(), true);
        due.is("size(9)", m.size(9), 998);
        b.done("the 999th night once more", () -> m.night(), 0, 15);
        b.refused("the 1000th night", () -> m.night(), 3);
        b.asked("nights to come all the same", () -> m.placeIn(0, 60), 23);
        due.is("back", m.back(0), true);
        due.is("size(9)", m.size(9), 998);
        b.done("the 999th night", () -> m.night(), 0, 1);
        b.refused("the 1000th night", () -> m.night(), 3);
    }

    /** Galleries as bits: none, the last one alone, all four. */
    private static void allFourAsBits(Due due) {
        Bound b = new Bound(due, BIG.replace("dig d garrison 7 7 w", "dig d garrison 7 7 wwe"));
        CounterMine m = b.mine;
        b.done("all four come", () -> m.night(), 15, 1);
        b.done("all but c, at its end", () -> m.night(), 11, 2);
        Bound last = new Bound(due, "field reach 1 error 0 pace 1 falls 0;row gg;row gs;wall 0 0;dig a miners 0 0 e;"
                + "dig b garrison 0 0 e;dig c miners 0 0 s;dig d garrison 0 0 se");
        last.asked("all four in a CELL", () -> last.mine.cell(0, 0, 4), 15);
        last.asked("all four by a charge", () -> last.mine.blast(0, 0, 0), 15);
        last.asked("none falls", () -> last.mine.drawn(0), 15);
        last.done("none comes", () -> last.mine.night(), 0, 1);
        last.done("none comes", () -> last.mine.night(), 0, 2);
        last.done("all four come", () -> last.mine.night(), 15, 3);
        last.done("the last one comes", () -> last.mine.night(), 8, 4);
        last.asked("the last one there", () -> last.mine.cell(1, 1, 4), 8);
        last.asked("whoBreaks, 0 and 1", () -> last.mine.whoBreaks(), 1);
        Bound ends = new Bound(due, "field reach 1 error 0 pace 1 falls 100;row ssss;row ssss;wall 0 0;dig a miners 0 0 e;"
                + "dig b miners 3 0 s;dig c miners 3 1 n;dig d garrison 0 1 n");
        ends.asked("whoBreaks, the first and the last", () -> ends.mine.whoBreaks(), 3);
        ends.asked("all fall", () -> ends.mine.drawn(0), 0);
    }

    /** "NONE: 1 (not in the field, rock); 2 (r)." */
    private static void charges(Due due) {
        String[] texts = {TEXT, BIG};
        for (String text : texts) {
            Bound b = new Bound(due, text);
            CounterMine m = b.mine;
            for (int r = 0; r <= 2; r++) {
                int power = r;
                b.noCells("charge " + r, (x, y) -> m.charge(x, y, power));
            }
            b.noCells("charge 3", (x, y) -> m.charge(x, y, 3));
            b.noNumbers("charge", 0, 2, -1, 2, r -> m.charge(1, 0, r));
        }
        Bound rock = new Bound(due, TEXT);
        for (int r = -1; r <= 3; r++) {
            int power = r;
            rock.refused("charge at rock", () -> rock.mine.charge(2, 1, power), 1);
            rock.refused("blast at rock", () -> rock.mine.blast(2, 1, power), 1);
        }
        rock.done("charge next to rock", () -> rock.mine.charge(2, 0, 0), 0, 1);
    }

    /** All galleries at once; none; those that are SHUT already; at the field's corners. */
    private static void chargesAtBounds(Due due) {
        Bound b = new Bound(due, BIG);
        CounterMine m = b.mine;
        b.done("charge 0", () -> m.charge(7, 7, 0), 10, 1);
        b.done("the same again", () -> m.charge(7, 7, 0), 0, 2);
        b.done("the same, more power", () -> m.charge(7, 7, 2), 0, 3);
        b.done("one off", () -> m.charge(1, 0, 0), 0, 4);
        b.done("one off, power 1", () -> m.charge(1, 0, 1), 5, 5);
        b.asked("SHUT", () -> m.gallery(0, 4), 1);
        b.asked("none DUG", () -> m.dug(), 0);
        b.asked("no blast of SHUT ones", () -> m.blast(0, 0, 2), 0);
        b.done("no gallery comes", () -> m.night(), 0, 6);
        int broken = 0;
        for (int i = 0; i < 64; i++) {
            broken += m.cell(i % 8, i / 8, 3);
        }
        // 6 round the corner, 1 0 and the three round it that are in the field
        due.is("BROKEN", broken, 6 + 4);
        Bound all = new Bound(due, "field reach 2 error 1 pace 3 falls 4;row ss;row ss;wall 0 0;dig a miners 0 0 e;"
                + "dig b garrison 1 0 s;dig c miners 1 1 w;dig d garrison 0 1 n");
        all.asked("all four", () -> all.mine.blast(0, 0, 2), 15);
        all.asked("but one", () -> all.mine.blast(0, 0, 1), 11);
        all.done("all four", () -> all.mine.charge(0, 0, 2), 15, 1);
        all.done("none more", () -> all.mine.charge(1, 1, 2), 0, 2);
    }

    /** "NONE: 1 (not in the field, rock, too); 5 (it is there)." */
    private static void moves(Due due) {
        String[] texts = {TEXT, BIG};
        for (String text : texts) {
            Bound b = new Bound(due, text);
            CounterMine m = b.mine;
            int last = m.size(6) - 1;
            b.noCells("move of the first", (x, y) -> m.move(0, x, y));
            b.noCells("move of the last", (x, y) -> m.move(last, x, y));
            b.noNumbers("move", 0, last, -1, 1, d -> m.move(d, 0, 1));
            b.noNumbers("move, both wrong", 0, last, -1, 1, d -> m.move(d, -1, 9));
            b.noNumbers("move to where drums are", 0, last, -1, 1, d -> m.move(d, 0, 0));
        }
        Bound b = new Bound(due, TEXT);
        CounterMine m = b.mine;
        b.refused("rock", () -> m.move(0, 2, 1), 1);
        b.refused("it is there", () -> m.move(0, 0, 0), 5);
        b.refused("it is there", () -> m.move(1, 3, 2), 5);
        b.done("next to it", () -> m.move(0, 1, 0), 0, 1);
        b.refused("it is there now", () -> m.move(0, 1, 0), 5);
        b.done("back again", () -> m.move(0, 0, 0), 1, 2);
        b.done("where the other one is", () -> m.move(0, 3, 2), 0, 3);
        b.refused("it is there, the other one, too", () -> m.move(0, 3, 2), 5);
        b.refused("it is there, the other one, too", () -> m.move(1, 3, 2), 5);
        Bound big = new Bound(due, BIG);
        big.done("the last of four", () -> big.mine.move(3, 0, 7), 77, 1);
        big.done("from one corner to another", () -> big.mine.move(3, 7, 0), 70, 2);
        big.asked("drum(3)", () -> big.mine.drum(3), 7);
    }

    /** "(16 are kept)": 15, 16 and 17 ACTS; the 17th from behind is given up. */
    private static void sixteenKept(Due due) {
        for (int acts = 0; acts <= 40; acts++) {
            Bound b = new Bound(due, TEXT);
            CounterMine m = b.mine;
            String[] stood = new String[acts + 1];
            stood[0] = nowOf(m);
            for (int i = 0; i < acts; i++) {
                act(due, b, i);
                stood[i + 1] = nowOf(m);
            }
            int kept = Math.min(16, acts);
            for (int i = 1; i <= kept; i++) {
                due.is("undo " + i + " of " + acts, m.undo(), true);
                due.is("trouble()", m.trouble(), 0);
                due.is("size(10)", m.size(10), kept - i);
                due.is("as it was", nowOf(m).equals(stood[acts - i]), true);
            }
            b.refused("undo of one more than " + kept, () -> m.undo() ? 1 : 0, 0, 6);
            b.refused("undo once more", () -> m.undo() ? 1 : 0, 0, 6);
            act(due, b, 1);
            due.is("size(10)", m.size(10), 1);
            due.is("undo", m.undo(), true);
            due.is("as it was", nowOf(m).equals(stood[acts - kept]), true);
            b.refused("undo of none", () -> m.undo() ? 1 : 0, 0, 6);
        }
    }

    private static void act(Due due, Bound b, int i) {
        CounterMine m = b.mine;
        int kept = Math.min(16, m.size(10) + 1);
        if (i % 3 == 0) {
            due.is("night", m.night() >= 0, true);
        } else if (i % 3 == 1) {
            due.is("charge", m.charge(i % 4, i % 2 * 2, i % 3) >= 0, true);
        } else {
            due.is("move", m.move(i % 2, m.drum(i % 2) == 10 ? 1 : 0, 1) >= 0, true);
        }
        due.is("trouble()", m.trouble(), 0);
        due.is("size(10)", m.size(10), kept);
    }

    /** All that acts change, without how many can be undone and how many IMAGES there are. */
    private static String nowOf(CounterMine m) {
        String all = Due.stateOf(m);
        String[] words = all.split(" ");
        words[10] = "";
        words[11] = "";
        return String.join(" ", words);
    }

    /** Each ACT is undone wholly; calls that only ask or are refused are none. */
    private static void eachUndone(Due due) {
        CounterMine m = Due.of(TEXT);
        m.night();
        String stood = Due.stateOf(m);
        m.night();
        due.is("undo", m.undo(), true);
        due.is("as it was", Due.stateOf(m).equals(stood), true);
        m.charge(1, 2, 2);
        due.is("undo", m.undo(), true);
        due.is("as it was", Due.stateOf(m).equals(stood), true);
        m.move(0, 3, 0);
        due.is("undo", m.undo(), true);
        due.is("as it was", Due.stateOf(m).equals(stood), true);
        m.move(0, 0, 0);
        m.charge(2, 1, 0);
        m.charge(0, 0, 3);
        m.image();
        m.placeIn(0, 60);
        m.firstBreak();
        due.is("size(10)", m.size(10), 1);
    }

    /** "IMAGES: up to 3"; "NONE: .. 3"; their numbers. */
    private static void threeImages(Due due) {
        Bound b = new Bound(due, TEXT);
        CounterMine m = b.mine;
        String[] stood = new String[3];
        for (int i = 0; i < 3; i++) {
            int images = i;
            b.refused("back of the next", () -> m.back(images) ? 1 : 0, 0, 1);
            stood[i] = nowOf(m);
            due.is("image", m.image(), i);
            due.is("trouble()", m.trouble(), 0);
            due.is("size(11)", m.size(11), i + 1);
            due.is("no ACT", m.size(10), i);
            m.night();
        }
        b.refused("the fourth image", () -> m.image(), 3);
        b.refused("the fourth image again", () -> m.image(), 3);
        b.noNumbers("back", 0, 2, 0, 1, image -> m.back(image) ? 1 : 0);
        int[] order = {2, 0, 1, 1, 2, 0};
        for (int image : order) {
            m.charge(1, 0, 2);
            due.is("back(" + image + ")", m.back(image), true);
            due.is("trouble()", m.trouble(), 0);
            due.is("all is as by it", nowOf(m).equals(stood[image]), true);
            due.is("all IMAGES stay", m.size(11), 3);
            due.is("nothing can be undone", m.size(10), 0);
            b.refused("undo", () -> m.undo() ? 1 : 0, 0, 6);
            b.refused("no room for another one", () -> m.image(), 3);
        }
    }

    private static void backAndUndo(Due due) {
        Bound b = new Bound(due, TEXT);
        CounterMine m = b.mine;
        due.is("image", m.image(), 0);
        m.night();
        m.night();
        b.refused("back(1)", () -> m.back(1) ? 1 : 0, 0, 1);
        b.refused("back(-1)", () -> m.back(-1) ? 1 : 0, 0, 1);
        due.is("a refused one leaves what can be undone", m.size(10), 2);
        due.is("undo", m.undo(), true);
        due.is("IMAGES aren't undone", m.size(11), 1);
        due.is("undo", m.undo(), true);
        due.is("back to what is NOW", m.back(0), true);
        due.is("nights", m.size(9), 0);
        m.night();
        due.is("back", m.back(0), true);
        b.refused("undo", () -> m.undo() ? 1 : 0, 0, 6);
        for (int i = 0; i < 17; i++) {
            m.night();
        }
        due.is("size(10)", m.size(10), 16);
        due.is("size(9)", m.size(9), 17);
    }

    /** "(no night gone by; nothing to undo, no IMAGES)"; by 4 and 2 all stays. */
    private static void fieldClears(Due due) {
        CounterMine m = Due.of(TEXT);
        m.night();
        m.charge(0, 0, 2);
        m.image();
        m.image();
        m.image();
        String stood = Due.stateOf(m);
        Due.feed(m, TEXT);
        due.refused(m, "field of too many", m.field(m.size(12) + 1), -1, 2);
        due.is("all stays by 2", Due.stateOf(m).equals(stood), true);
        due.refused(m, "field of a part", m.field(TEXT.indexOf(";wall")), -1, 4);
        due.is("all stays by 4", Due.stateOf(m).equals(stood), true);
        due.is("undo still", m.undo(), true);
        due.is("back still", m.back(2), true);
        Due.feed(m, TEXT);
        due.taken(m, "field", m.field(TEXT.length()), 3);
        due.is("as a new one", Due.stateOf(m).equals(Due.stateOf(Due.of(TEXT))), true);
        due.is("size(9)", m.size(9), 0);
        due.is("size(10)", m.size(10), 0);
        due.is("size(11)", m.size(11), 0);
        due.refused(m, "undo", m.undo() ? 1 : 0, 0, 6);
        due.refused(m, "back", m.back(0) ? 1 : 0, 0, 1);
        due.taken(m, "image", m.image(), 0);
        Due.feed(m, BIG);
        due.taken(m, "a larger field", m.field(BIG.length()), 4);
        due.taken(m, "its last CELL", m.cell(7, 7, 4), 10);
        Due.feed(m, TEXT);
        due.taken(m, "a smaller one again", m.field(TEXT.length()), 3);
        due.refused(m, "a CELL of the larger one", m.cell(4, 0, 0), -1, 1);
        due.refused(m, "a gallery of the larger one", m.gallery(3, 0), -1, 1);
        due.refused(m, "a drum of the larger one", m.drum(2), -1, 1);
        due.is("as a new one", Due.stateOf(m).equals(Due.stateOf(Due.of(TEXT))), true);
    }

    /** "NoSuchElementException if there is none such": none, some, all of them dig no more. */
    private static void ledByBounds(Due due) {
        int[] wrong = {-1, 4, 5, Integer.MIN_VALUE, Integer.MAX_VALUE, -256, 256};
        CounterMine m = Due.of(BIG);
        due.led(m, 0, -1);
        m.night();
        due.led(m, 0, 2);
        due.led(m, 1, 3);
        due.led(m, 2, -1);
        m.charge(7, 6, 0);
        due.led(m, 0, 1);
        due.led(m, 1, 2);
        due.led(m, 2, 3);
        due.led(m, 3, -1);
        m.charge(1, 0, 0);
        for (int i = 0; i < 4; i++) {
            due.led(m, i, i);
        }
        m.field(-1);
        for (int i : wrong) {
            due.led(m, i, -1);
            due.is("trouble() behind led", m.trouble(), 2);
        }
        due.led(new CounterMine(), 0, -1);
        due.led(new CounterMine(), -1, -1);
        due.led(Due.of("field reach 2 error 1 pace 3 falls 4;row ss;row ss;wall 0 0"), 0, -1);
    }

    /** "NONE for others; 0 for what there isn't." */
    private static void sizes(Due due) {
        int[] wrong = {-1, 13, 14, 256, -256, Integer.MIN_VALUE, Integer.MAX_VALUE};
        CounterMine[] all = {new CounterMine(), Due.of(TEXT), Due.worked()};
        for (CounterMine m : all) {
            m.field(-1);
            for (int what : wrong) {
                due.is("size(" + what + ")", m.size(what), -1);
                due.is("trouble() behind size", m.trouble(), 2);
            }
        }
        for (int what = 0; what <= 12; what++) {
            due.is("size(" + what + ") of a new one", new CounterMine().size(what), 0);
        }
        int[] want = {2, 1, 3, 4, 4, 3, 2, 3, 1, 0, 0, 0, 0};
        for (int what = 0; what <= 12; what++) {
            due.is("size(" + what + ")", Due.of(TEXT).size(what), want[what]);
        }
        CounterMine faulty = new CounterMine();
        String text = TEXT + ";row";
        Due.feed(faulty, text);
        due.is("field with a FAULT", faulty.field(text.length()), -1);
        for (int what = 0; what <= 12; what++) {
            due.is("size(" + what + ") behind a FAULT", faulty.size(what), 0);
        }
    }

    /** Each TROUBLE, left by one call and by the next one that may be refused. */
    private static void troubleOfEach(Due due) {
        CounterMine m = Due.of(TEXT);
        due.is("0", m.trouble(), 0);
        m.cell(4, 0, 0);
        due.is("1", m.trouble(), 1);
        due.is("1 still", m.trouble(), 1);
        m.dugIn(61);
        due.is("2", m.trouble(), 2);
        for (int i = 0; i < 4; i++) {
            m.image();
        }
        due.is("3", m.trouble(), 3);
        m.field(0);
        due.is("4", m.trouble(), 4);
        m.move(0, 0, 0);
        due.is("5", m.trouble(), 5);
        m.undo();
        due.is("6", m.trouble(), 6);
        m.endsIn(0);
        due.is("0", m.trouble(), 0);
    }
}
