/** Promises 2 to 5 and part I of the terms: THE TAPE, the text of a field and its faults. */
public final class FieldTest {
    private static final String HEAD = "field reach 3 error 1 pace 2 falls 5";
    private static final String ROWS = HEAD + ";row ssr;row sss";
    private static final String WALL = ROWS + ";wall 0 0";
    private static final int AT = WALL.length() + 1;

    public static void main(String[] args) {
        Due due = new Due("FieldTest");
        tape(due);
        fieldStays(due);
        sounds(due);
        forms(due);
        names(due);
        bounds(due);
        many(due);
        lacks(due);
        rock(due);
        late(due);
        firstFromTheLeft(due);
        due.end();
    }

    private static void tape(Due due) {
        CounterMine m = new CounterMine();
        for (int i = 1; i <= 35; i++) {
            due.is("feed", m.feed(0, 0, 0, 0, 0), 20 * i);
        }
        due.is("feed of more than 700", m.feed(0, 0, 0, 0, 0), -1);
        due.is("feed is no call that may be refused", m.trouble(), 0);
        due.is("size(12)", m.size(12), 700);
        due.refused(m, "field(701)", m.field(701), -1, 2);
        due.is("fault() by 2", m.fault(), 0);
        due.is("where() by 2", m.where(), -1);
        due.refused(m, "field(-1)", m.field(-1), -1, 2);
        due.is("THE TAPE stays", m.size(12), 700);
        due.is("feed", m.feed(1, 1, 1, 1, 1), -1);
        due.refused(m, "field(700)", m.field(700), -1, 4);
        due.is("THE TAPE is empty", m.size(12), 0);
        due.is("feed", m.feed(0x66696568, 0, 0, 0, 0), 20);
        due.refused(m, "field(5)", m.field(5), -1, 4);
        due.is("fault()", m.fault(), 1);
        due.is("where()", m.where(), 0);
        CounterMine bytes = new CounterMine();
        bytes.feed(0x66696564 + 0x08, 0x64207265, 0x61636820, 0x31207800, 0xffffffff);
        due.is("bytes, the highest first", bytes.field(20), -1);
        due.is("fault()", bytes.fault(), 1);
        due.is("where()", bytes.where(), 14);
        String text = WALL;
        for (int i = text.length(); i < 700; i++) {
            text += " ";
        }
        due.sound(text, 0);
    }

    private static void fieldStays(Due due) {
        CounterMine m = Due.of(WALL + ";dig a miners 0 0 es;drum b 1 1");
        m.night();
        m.image();
        due.is("size(9)", m.size(9), 1);
        Due.feed(m, "field reach 15");
        due.refused(m, "field", m.field(14), -1, 4);
        due.is("where()", m.where(), 12);
        due.is("size(4) asks nothing", m.size(4), 3);
        m.feed(0, 0, 0, 0, 0);
        due.led(m, 0, -1);
        due.is("where() still", m.where(), 12);
        due.taken(m, "the FIELD stays: gallery(0, 1)", m.gallery(0, 1), 1);
        due.is("where() behind a call that wasn't refused by 4", m.where(), -1);
        due.is("fault() of the latest field", m.fault(), 4);
        due.is("size(9)", m.size(9), 1);
        due.is("size(10)", m.size(10), 1);
        due.is("size(11)", m.size(11), 1);
        m.field(21);
        due.is("trouble()", m.trouble(), 2);
        due.is("fault() of the latest field not refused by 2", m.fault(), 4);
        m.field(0);
        due.is("field(0) of 20 bytes", m.fault(), 1);
        due.is("they are gone", m.size(12), 0);
        Due.feed(m, WALL + ";drum b 0 0");
        due.taken(m, "field", m.field(WALL.length()), 0);
        due.is("fault()", m.fault(), 0);
        due.is("the rest of THE TAPE is gone", m.size(12), 0);
        due.is("no night gone by", m.size(9), 0);
        due.is("nothing to undo", m.size(10), 0);
        due.refused(m, "undo", m.undo() ? 1 : 0, 0, 6);
        due.is("no IMAGES", m.size(11), 0);
        due.refused(m, "back", m.back(0) ? 1 : 0, 0, 1);
        due.is("no drum of the former one", m.size(6), 0);
        due.is("no gallery of the former one", m.size(7), 0);
        due.refused(m, "gallery", m.gallery(0, 1), -1, 1);
        due.taken(m, "none DUG", m.dug(), 0);
    }

    private static void sounds(Due due) {
        due.sound(WALL, 0);
        due.sound("  field  reach03error 0pace 9 falls 100 ;row ss;  row rs;wall 000 0  ", 0);
        due.sound("field reach 14 error 3 pace 1 falls 0;row ssssssss;row cccccccc;row gggggggg;row rrrrrrrr;"
                + "row scgrscgr;row ssssssss;row ssssssss;row ssssssss;wall 7 7", 0);
        due.sound(ROWS + ";drum reach 0 0;dig error garrison 0 1 e;drum miners 1 1;dig garrison miners 0 0 s;"
                + "heard miners 60 14;heard reach 60 0;wall 0 1", 2);
        due.sound(WALL + ";dig abcdefgh miners 0 0 seewwnes;dig b miners 0 0 s;dig c garrison 0 0 s;"
                + "dig d garrison 2 1 w;drum e 0 0;drum f 0 0;drum g 0 0;drum h 0 0;heard e 0 0;heard e 1 0;"
                + "heard f 0 0;heard f 1 0;heard g 0 0;heard h 0 0", 4);
        due.sound(WALL + ";drum z 0 0;drum az 0 0;drum za 0 0;heard z 9 9;heard az 9 9;heard za 9 9", 0);
        due.sound(WALL + ";drum abcdefgh 0 0;drum abcdefg 0 0;heard abcdefg 1 1;heard abcdefgh 1 1", 0);
    }

    private static void forms(Due due) {
        due.fault("", 1, 0);
        due.fault("   ", 1, 3);
        due.fault(";", 1, 0);
        due.fault("7", 1, 0);
        due.fault("fields", 1, 0);
        due.fault("Field", 1, 0);
        due.fault("\nfield", 1, 0);
        due.fault("field", 1, 5);
        due.fault("field   ", 1, 8);
        due.fault("field error", 1, 6);
        due.fault("field reach x", 1, 12);
        due.fault("field reach ;", 1, 12);
        due.fault("field reach 1234", 1, 12);
        due.fault("field reach 3 pace", 1, 14);
        due.fault("field reach 3 error 1 pace 2 falls", 1, 34);
        due.fault(HEAD + "x", 1, 36);
        due.fault(HEAD + " 1", 1, 37);
        due.fault(HEAD + ";", 1, 37);
        due.fault(HEAD + ";;", 1, 37);
        due.fault(HEAD + ";row", 1, 40);
        due.fault(HEAD + ";row 12", 1, 41);
        due.fault(HEAD + ";row sssssssss", 1, 41);
        due.fault(HEAD + ";row ss ss", 1, 44);
        due.fault(WALL + ";", 1, AT);
        due.fault(WALL + ";x", 1, AT);
        due.fault(WALL + "-", 1, AT - 1);
        due.fault(ROWS + ";wall 0", 1, AT - 3);
        due.fault(ROWS + ";wall 0 ;", 1, AT - 2);
        due.fault(WALL + ";drum 1", 1, AT + 5);
        due.fault(WALL + ";drum abcdefghi 0 0", 1, AT + 5);
        due.fault(WALL + ";drum a 0 b", 1, AT + 9);
        due.fault(WALL + ";drum a 0 0 0", 1, AT + 11);
        due.fault(WALL + ";dig a miner 0 0 e", 1, AT + 6);
        due.fault(WALL + ";dig a 1 0 0 e", 1, AT + 6);
        due.fault(WALL + ";dig a miners 0 0 5", 1, AT + 17);
        due.fault(WALL + ";dig a miners 0 0", 1, AT + 16);
        due.fault(WALL + ";dig a miners 0 0 e e", 1, AT + 19);
        due.fault(WALL + ";drum a 0 0;heard a x", 1, AT + 19);
        due.fault(WALL + ";drum a 0 0;heard a 1", 1, AT + 20);
        due.fault(WALL + ";drum a 0 0;heard 1", 1, AT + 17);
    }

    private static void names(Due due) {
        String[] kept = {"field", "row", "wall", "drum", "dig", "heard"};
        for (String word : kept) {
            due.fault(WALL + ";drum " + word + " 0 0", 1, AT + 5);
            due.fault(WALL + ";dig " + word + " miners 0 0 e", 1, AT + 4);
            due.fault(WALL + ";heard " + word + " 0 0", 1, AT + 6);
        }
        due.fault(WALL + ";heard a 0 0", 2, AT + 6);
        due.fault(WALL + ";heard a 0 0;drum a 0 0", 2, AT + 6);
        due.fault(WALL + ";dig a miners 0 0 e;heard a 0 0", 2, AT + 25);
        due.fault(WALL + ";drum a 0 0;drum a 0 0", 3, AT + 16);
        due.fault(WALL + ";drum a 0 0;dig a miners 0 0 e", 3, AT + 15);
        due.fault(WALL + ";dig a miners 0 0 e;dig a miners 0 0 e", 3, AT + 23);
        due.fault(WALL + ";dig a miners 0 0 e;drum a 0 0", 3, AT + 24);
        due.fault(WALL + ";drum a 0 0;heard a 7 1;heard a 007 1", 3, AT + 31);
        due.fault(WALL + ";wall", 3, AT);
        due.fault(HEAD + ";field", 3, 37);
        due.fault(WALL + ";field", 3, AT);
    }

    private static void bounds(Due due) {
        due.fault("field reach 0", 4, 12);
        due.fault("field reach 15", 4, 12);
        due.fault("field reach 1 error 4", 4, 20);
        due.fault("field reach 14 error 3 pace 0", 4, 28);
        due.fault("field reach 14 error 3 pace 10", 4, 28);
        due.fault("field reach 14 error 3 pace 9 falls 101", 4, 36);
        due.fault(ROWS + ";wall 3 0", 4, AT - 4);
        due.fault(ROWS + ";wall 0 2", 4, AT - 2);
        due.fault(WALL + ";drum a 3 0", 4, AT + 7);
        due.fault(WALL + ";drum a 0 2", 4, AT + 9);
        due.fault(WALL + ";dig a garrison 999 0 e", 4, AT + 15);
        due.fault(WALL + ";dig a garrison 0 2 e", 4, AT + 17);
        due.fault(WALL + ";drum a 0 0;heard a 61 0", 4, AT + 19);
        due.fault(WALL + ";drum a 0 0;heard a 60 15", 4, AT + 22);
    }

    private static void many(Due due) {
        String rows = HEAD + ";row ss;row ss;row ss;row ss;row ss;row ss;row ss;row ss";
        due.fault(rows + ";row ss", 5, rows.length() + 1);
        due.fault(rows + ";wall 0 0;row ss", 5, rows.length() + 10);
        String drums = WALL + ";drum a 0 0;drum b 0 0;drum c 0 0;drum d 0 0";
        due.fault(drums + ";drum", 5, drums.length() + 1);
        String digs = WALL + ";dig a miners 0 0 e;dig b miners 0 0 e;dig c miners 0 0 e;dig d miners 0 0 e";
        due.fault(digs + ";dig dig", 5, digs.length() + 1);
        String heard = WALL + ";drum a 0 0;heard a 0 0;heard a 1 0;heard a 2 0;heard a 3 0;heard a 4 0;heard a 5 0";
        due.fault(heard + ";heard a 5 0", 5, heard.length() + 1);
    }

    private static void lacks(Due due) {
        String[] lines = {"row ss", "wall 0 0", "drum a 0 0", "dig a miners 0 0 e", "heard a 0 0"};
        for (String line : lines) {
            due.fault(line, 6, 0);
            due.fault("  " + line + ";" + HEAD, 6, 2);
            if (!line.startsWith("row")) {
                due.fault(HEAD + ";" + line, 6, 37);
                due.fault(HEAD + ";row ss;" + line, 6, 44);
            }
        }
        due.fault(HEAD, 6, 36);
        due.fault(HEAD + ";row ss", 6, 43);
        due.fault(ROWS + ";drum a 0 0", 6, ROWS.length() + 11);
        due.fault(ROWS + "  ", 6, ROWS.length() + 2);
    }

    private static void rock(Due due) {
        due.fault(HEAD + ";row s", 7, 41);
        due.fault(HEAD + ";row sx", 7, 41);
        due.fault(HEAD + ";row field", 7, 41);
        due.fault(HEAD + ";row sss;row ss", 7, 49);
        due.fault(HEAD + ";row sss;row ssss", 7, 49);
        due.fault(ROWS + ";wall 2 0", 7, AT - 2);
        due.fault(WALL + ";drum a 2 0", 7, AT + 9);
        due.fault(WALL + ";dig a miners 2 0 s", 7, AT + 15);
        due.fault(WALL + ";dig a miners 0 0 ex", 7, AT + 17);
        due.fault(WALL + ";dig a miners 0 0 row", 7, AT + 17);
        due.fault(WALL + ";dig a miners 0 0 n", 7, AT + 17);
        due.fault(WALL + ";dig a miners 0 0 w", 7, AT + 17);
        due.fault(WALL + ";dig a miners 0 0 ss", 7, AT + 17);
        due.fault(WALL + ";dig a miners 0 1 eee", 7, AT + 17);
        due.fault(WALL + ";dig a miners 0 0 ee", 7, AT + 17);
        due.fault(WALL + ";dig a miners 0 0 seen", 7, AT + 17);
        due.fault("field reach 3 error 1 pace 2 falls 5;row ssssssss;row ssssssss;wall 0 0;dig a miners 7 0 e", 7, 89);
    }

    private static void late(Due due) {
        due.fault(WALL + ";row sss", 8, AT);
        due.fault(ROWS + ";drum a 0 0;row sss", 8, ROWS.length() + 12);
        due.fault(WALL + ";row", 8, AT);
    }

    private static void firstFromTheLeft(Due due) {
        due.fault(WALL + ";drum a 3 9;dig a", 4, AT + 7);
        due.fault(WALL + ";drum a 0 0;?;drum a 0 0", 1, AT + 11);
        due.fault(WALL + ";drum a 0 0;drum a ?", 3, AT + 16);
        due.fault("field reach 15?", 4, 12);
        due.fault("field reach 3 error 9 ; ?", 4, 20);
    }
}
