/** Promises 41 to 46: nights, charges, drums moved, undoing and images. */
public final class ActsTest {
    private static final String TEXT = "field reach 2 error 0 pace 1 falls 10;row sscs;row sgrs;row ssss;wall 3 0;"
            + "drum d 0 0;drum e 3 2;dig a miners 0 2 eee;dig b garrison 3 0 ssw;dig c garrison 0 0 es";

    public static void main(String[] args) {
        Due due = new Due("ActsTest");
        nights(due);
        charges(due);
        moves(due);
        undoing(due);
        images(due);
        due.end();
    }

    private static void nights(Due due) {
        CounterMine m = Due.of(TEXT);
        due.taken(m, "night 1", m.night(), 7);
        due.taken(m, "night 2", m.night(), 3);
        due.taken(m, "night 3", m.night(), 3);
        due.taken(m, "night 4", m.night(), 4);
        due.taken(m, "night 5", m.night(), 0);
        due.is("size(9)", m.size(9), 5);
        due.is("size(10)", m.size(10), 5);
        for (int n = 6; n <= 999; n++) {
            due.taken(m, "night " + n, m.night(), 0);
        }
        due.refused(m, "night 1000", m.night(), -1, 3);
        due.is("size(9)", m.size(9), 999);
        due.is("size(10)", m.size(10), 16);
        CounterMine none = Due.of("field reach 2 error 0 pace 1 falls 10;row ss;row ss;wall 0 0");
        due.taken(none, "no gallery", none.night(), 0);
        due.is("size(9)", none.size(9), 1);
    }

    private static void charges(Due due) {
        CounterMine m = Due.of(TEXT);
        due.taken(m, "charge 0", m.charge(0, 2, 0), 1);
        due.taken(m, "SHUT ones are told once", m.charge(0, 1, 1), 4);
        due.taken(m, "none", m.charge(0, 2, 2), 0);
        due.taken(m, "SHUT for ever", m.night(), 2);
        due.taken(m, "SHUT", m.gallery(0, 4), 1);
        due.taken(m, "SHUT", m.gallery(2, 4), 1);
        due.taken(m, "not SHUT", m.gallery(1, 4), 0);
        due.taken(m, "BROKEN", m.cell(1, 1, 3), 1);
        due.taken(m, "too far", m.cell(2, 0, 3), 0);
        due.taken(m, "rock isn't BROKEN", m.cell(2, 1, 3), 0);
        due.taken(m, "BROKEN gravel", m.cell(1, 1, 1), 4);
        due.taken(m, "DUG no more", m.dug(), 2);
        due.refused(m, "rock", m.charge(2, 1, 3), -1, 1);
        due.refused(m, "out", m.charge(4, 0, 0), -1, 1);
        due.refused(m, "out", m.charge(0, 3, 0), -1, 1);
        due.refused(m, "out", m.charge(-1, 0, 0), -1, 1);
        due.refused(m, "r", m.charge(0, 0, 3), -1, 2);
        due.refused(m, "r", m.charge(0, 0, -1), -1, 2);
        due.is("size(10)", m.size(10), 4);
        m.charge(2, 2, 1);
        due.taken(m, "next to rock", m.cell(2, 1, 3), 0);
        due.taken(m, "rock still", m.cell(2, 1, 1), -2);
    }

    private static void moves(Due due) {
        CounterMine m = Due.of(TEXT);
        due.taken(m, "move", m.move(0, 1, 2), 0);
        due.taken(m, "where it is", m.drum(0), 21);
        due.taken(m, "the other one", m.drum(1), 23);
        due.taken(m, "move to where another one is", m.move(0, 3, 2), 21);
        due.refused(m, "it is there", m.move(0, 3, 2), -1, 5);
        due.refused(m, "rock", m.move(0, 2, 1), -1, 1);
        due.refused(m, "out", m.move(0, 4, 0), -1, 1);
        due.refused(m, "out", m.move(0, 0, -1), -1, 1);
        due.refused(m, "no such drum", m.move(2, 3, 2), -1, 1);
        due.refused(m, "no such drum", m.move(-1, 3, 2), -1, 1);
        due.is("size(10)", m.size(10), 2);
        due.taken(m, "hears from there", m.hears(0, 0), 2);
    }

    private static void undoing(Due due) {
        CounterMine m = Due.of(TEXT);
        m.night();
        m.charge(1, 2, 1);
        m.move(1, 0, 0);
        m.charge(4, 4, 4);
        m.move(1, 0, 0);
        due.is("refused ones are no ACTS", m.size(10), 3);
        due.taken(m, "undo", m.undo() ? 1 : 0, 1);
        due.taken(m, "the drum", m.drum(1), 23);
        due.taken(m, "still SHUT", m.gallery(0, 4), 1);
        due.taken(m, "undo", m.undo() ? 1 : 0, 1);
        due.taken(m, "SHUT no more", m.gallery(0, 4), 0);
        due.taken(m, "its nights", m.gallery(0, 3), 1);
        due.taken(m, "BROKEN no more", m.cell(1, 2, 3), 0);
        due.taken(m, "DUG again", m.dug(), 6);
        due.taken(m, "undo", m.undo() ? 1 : 0, 1);
        due.is("no night gone by", m.size(9), 0);
        due.taken(m, "at first", m.gallery(0, 1), 20);
        due.taken(m, "at first", m.gallery(0, 2), 0);
        due.taken(m, "DUG", m.dug(), 3);
        due.refused(m, "undo", m.undo() ? 1 : 0, 0, 6);
        for (int i = 0; i < 20; i++) {
            due.taken(m, "move", m.move(0, 1 - i % 2, 0), i % 2);
        }
        m.night();
        due.is("size(10)", m.size(10), 16);
        for (int i = 16; i > 0; i--) {
            due.taken(m, "undo", m.undo() ? 1 : 0, 1);
            due.is("size(10)", m.size(10), i - 1);
        }
        due.refused(m, "undo of the 17th", m.undo() ? 1 : 0, 0, 6);
        due.taken(m, "behind 5 moves", m.drum(0), 1);
        due.is("size(9)", m.size(9), 0);
    }

    private static void images(Due due) {
        CounterMine m = Due.of(TEXT);
        due.refused(m, "back(0)", m.back(0) ? 1 : 0, 0, 1);
        due.taken(m, "image", m.image(), 0);
        m.night();
        m.move(1, 0, 0);
        due.taken(m, "image", m.image(), 1);
        m.charge(0, 2, 2);
        due.taken(m, "image", m.image(), 2);
        due.refused(m, "image", m.image(), -1, 3);
        due.is("size(11)", m.size(11), 3);
        due.is("an IMAGE is no ACT", m.size(10), 3);
        due.taken(m, "back(1)", m.back(1) ? 1 : 0, 1);
        due.is("nothing can be undone", m.size(10), 0);
        due.refused(m, "undo", m.undo() ? 1 : 0, 0, 6);
        due.is("all IMAGES stay", m.size(11), 3);
        due.taken(m, "not BROKEN", m.cell(0, 2, 3), 0);
        due.taken(m, "the drum", m.drum(1), 0);
        due.is("nights", m.size(9), 1);
        due.taken(m, "back(2)", m.back(2) ? 1 : 0, 1);
        due.taken(m, "BROKEN", m.cell(0, 2, 3), 1);
        due.taken(m, "SHUT", m.gallery(0, 4), 1);
        due.taken(m, "back(0)", m.back(0) ? 1 : 0, 1);
        due.taken(m, "the drum", m.drum(1), 23);
        due.is("nights", m.size(9), 0);
        m.night();
        due.is("size(10)", m.size(10), 1);
        due.taken(m, "undo", m.undo() ? 1 : 0, 1);
        due.refused(m, "back(3)", m.back(3) ? 1 : 0, 0, 1);
        due.refused(m, "back(-1)", m.back(-1) ? 1 : 0, 0, 1);
        due.refused(m, "image", m.image(), -1, 3);
        Due.feed(m, TEXT);
        due.taken(m, "back(0), THE TAPE aside", m.back(0) ? 1 : 0, 1);
        due.is("size(12)", m.size(12), 20 * ((TEXT.length() + 19) / 20));
        due.taken(m, "a field", m.field(TEXT.length()), 3);
        due.is("no IMAGES", m.size(11), 0);
        due.taken(m, "image", m.image(), 0);
    }
}
