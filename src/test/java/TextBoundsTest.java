/** The bounds that part I of the terms and promises 2 to 5 name, each with its neighbours: the tape, its text, faults. */
public final class TextBoundsTest {
    private static final String HEAD = "field reach 3 error 1 pace 2 falls 5";
    private static final String ROWS = HEAD + ";row ssr;row sss";
    private static final String WALL = ROWS + ";wall 0 0";
    private static final String[] KEPT = {"field", "row", "wall", "drum", "dig", "heard"};

    public static void main(String[] args) {
        Due due = new Due("TextBoundsTest");
        sevenHundredBytes(due);
        twentyBytesEach(due);
        firstBytes(due);
        allBeginnings(due);
        latestField(due);
        placeOfFour(due);
        bytesOfTokens(due);
        wordsAndWholes(due);
        numbersOfTheField(due);
        rows(due);
        cellsInARow(due);
        soils(due);
        walls(due);
        drums(due);
        digs(due);
        ways(due);
        heards(due);
        names(due);
        ends(due);
        lateRows(due);
        leastOfOnePlace(due);
        firstFromTheLeft(due);
        due.end();
    }

    // ---- promises 2 to 5

    /** "NONE, and none comes, if there would be more than 700." */
    private static void sevenHundredBytes(Due due) {
        CounterMine m = new CounterMine();
        due.is("size(12) of none", m.size(12), 0);
        String text = padded(WALL, 700);
        for (int from = 0; from < 700; from += 20) {
            due.is("feed", Due.feed(m, text.substring(from, from + 20)), from + 20);
            due.is("size(12)", m.size(12), from + 20);
            due.is("trouble() behind feed", m.trouble(), 0);
        }
        m.field(-1);
        for (int i = 0; i < 3; i++) {
            due.is("feed of more than 700", m.feed(-1, -1, -1, -1, -1), -1);
            due.is("size(12)", m.size(12), 700);
            due.is("feed leaves trouble()", m.trouble(), 2);
            due.is("where()", m.where(), -1);
            due.is("fault()", m.fault(), 0);
        }
        due.refused(m, "field(701)", m.field(701), -1, 2);
        due.taken(m, "none came", m.field(700), 0);
        due.is("THE TAPE is empty", m.size(12), 0);
        due.is("and takes again", m.feed(-1, -1, -1, -1, -1), 20);
        due.sound(padded(WALL, 700), 0);
        due.sound(stretched(700), 0);
        due.fault(stretched(699) + "x", 1, 699);
        due.fault(stretched(699) + ";", 1, 700);
        due.fault(padded("", 700), 1, 700);
        due.fault(padded("", 699) + "?", 1, 699);
        due.fault(padded(ROWS, 700), 6, 700);
    }

    /** "Twenty bytes come .., of each number the highest first": a byte that begins no TOKEN, at each of twenty places. */
    private static void twentyBytesEach(Due due) {
        for (int place = 0; place < 20; place++) {
            int[] numbers = new int[5];
            for (int i = 0; i < 20; i++) {
                numbers[i / 4] = numbers[i / 4] << 8 | (i == place ? 0xff : ' ');
            }
            CounterMine m = new CounterMine();
            m.feed(numbers[0], numbers[1], numbers[2], numbers[3], numbers[4]);
            due.refused(m, "field(20)", m.field(20), -1, 4);
            due.is("fault()", m.fault(), 1);
            due.is("where() of byte " + place, m.where(), place);
        }
    }

    /** "The first n bytes": none, all, and as many as there aren't. */
    private static void firstBytes(Due due) {
        CounterMine m = new CounterMine();
        int[] none = {-1, 1, 20, 700, Integer.MIN_VALUE, Integer.MAX_VALUE};
        for (int n : none) {
            m.drum(0);
            due.refused(m, "field(" + n + ") of an empty tape", m.field(n), -1, 2);
            due.is("fault()", m.fault(), 0);
            due.is("where()", m.where(), -1);
            due.is("size(12)", m.size(12), 0);
        }
        due.refused(m, "field(0) of an empty tape", m.field(0), -1, 4);
        due.is("fault()", m.fault(), 1);
        due.is("where()", m.where(), 0);
        Due.feed(m, WALL);
        int held = m.size(12);
        int[] wrong = {-1, held + 1, held + 20, 701, Integer.MIN_VALUE, Integer.MAX_VALUE};
        for (int n : wrong) {
            due.refused(m, "field(" + n + ") of " + held, m.field(n), -1, 2);
            due.is("THE TAPE stays", m.size(12), held);
            due.is("fault() of the one not refused by 2", m.fault(), 1);
            due.is("where()", m.where(), -1);
            due.is("no FIELD", m.size(4), 0);
        }
        due.taken(m, "field of all that it has", m.field(held), 0);
        due.is("size(12)", m.size(12), 0);
        due.refused(m, "field of what it had", m.field(held), -1, 2);
        due.is("fault()", m.fault(), 0);
        due.is("the FIELD stays", m.size(4), 3);
    }

    /** Bytes behind the first n are not read, though a TOKEN goes on there. */
    private static void allBeginnings(Due due) {
        String text = WALL + ";drum ab 1 0;dig cd garrison 0 0 see;heard ab 10 12;heard ab 1 1";
        for (int n = 0; n <= text.length(); n++) {
            int[] want = FaultModel.of(text.substring(0, n));
            CounterMine m = new CounterMine();
            Due.feed(m, text + "?");
            due.is("field(" + n + ")", m.field(n) >= 0, want[0] == 0);
            due.is("fault() of field(" + n + ")", m.fault(), want[0]);
            due.is("where() of field(" + n + ")", m.where(), want[1]);
            due.is("size(12) of field(" + n + ")", m.size(12), 0);
        }
        CounterMine m = new CounterMine();
        Due.feed(m, text);
        due.taken(m, "a WHOLE of which the last digit isn't read", m.field(text.indexOf(" 12;") + 2), 1);
        due.taken(m, "heard 1 FAR: one of error 1", m.fits(), 25);
        Due.feed(m, text);
        due.taken(m, "a WAY of which the last one isn't read", m.field(text.indexOf("see;") + 2), 1);
        due.taken(m, "how many its WAY has", m.gallery(0, 5), 2);
    }

    /** "The FAULT of the latest field() not refused by 2; 0 without one." */
    private static void latestField(Due due) {
        CounterMine m = new CounterMine();
        due.is("fault() without a field()", m.fault(), 0);
        m.field(1);
        due.is("fault() behind one refused by 2 alone", m.fault(), 0);
        tell(due, m, "field reach 15", 4);
        m.field(1);
        due.is("fault() behind one refused by 2", m.fault(), 4);
        tell(due, m, HEAD + ";wall 0 0", 6);
        tell(due, m, WALL, 0);
        m.field(1);
        due.is("fault() behind one refused by 2", m.fault(), 0);
        tell(due, m, WALL + ";row", 8);
        m.night();
        m.undo();
        due.is("fault() behind other calls", m.fault(), 8);
        tell(due, m, WALL, 0);
    }

    private static void tell(Due due, CounterMine m, String text, int fault) {
        Due.feed(m, text);
        due.is("field of '" + text + "'", m.field(text.length()) == CounterMine.NONE, fault != 0);
        due.is("fault() of '" + text + "'", m.fault(), fault);
    }

    /** "Its place, if the latest call that may be refused was by 4; NONE else." */
    private static void placeOfFour(Due due) {
        CounterMine m = new CounterMine();
        due.is("where() at first", m.where(), -1);
        String text = "  ?";
        Due.feed(m, text);
        m.field(text.length());
        due.is("where() by 4", m.where(), 2);
        due.is("where() again", m.where(), 2);
        m.fault();
        m.size(0);
        m.size(99);
        m.trouble();
        m.feed(0, 0, 0, 0, 0);
        due.led(m, 0, -1);
        due.is("where() behind calls that may not be refused", m.where(), 2);
        m.field(21);
        due.is("where() by 2", m.where(), -1);
        m.field(0);
        due.is("where() by 4 at 0", m.where(), 0);
        m.dug();
        due.is("where() by 1", m.where(), -1);
        m.field(0);
        m.undo();
        due.is("where() by 6", m.where(), -1);
        tell(due, m, WALL + ";drum d 0 0", 0);
        due.is("where() of a sound one", m.where(), -1);
        m.field(0);
        due.is("where() by 4", m.where(), 0);
        m.night();
        due.is("where() behind one that isn't refused", m.where(), -1);
        m.field(0);
        m.move(0, 0, 0);
        due.is("where() by 5", m.where(), -1);
        m.image();
        m.image();
        m.image();
        m.field(0);
        m.image();
        due.is("where() by 3", m.where(), -1);
    }

    // ---- TOKENS

    /** Small letters, digits, the semicolon and the blank: those next to them begin no TOKEN, at a line's place or in it. */
    private static void bytesOfTokens(Due due) {
        for (int sign = 0; sign < 256; sign++) {
            String one = String.valueOf((char) sign);
            boolean letter = sign >= 'a' && sign <= 'z';
            boolean digit = sign >= '0' && sign <= '9';
            if (sign == ' ') {
                due.sound(WALL + one, 0);
                due.fault(WALL + ";" + one + "^", 1);
            } else {
                due.fault(WALL + ";^" + one, 1);
                due.fault(WALL + (sign == ';' ? " ;^" : " ^" + one), 1);
            }
            if (letter) {
                due.sound(WALL + ";drum " + one + " 0 0", 0);
            } else {
                due.fault(WALL + ";drum " + (sign == ' ' ? " ^" : "^" + one), 1);
            }
            if (digit) {
                due.sized("field reach 3 error 1 pace 2 falls " + one + ";row ss;row ss;wall 0 0", 0, 3, sign - '0');
            } else {
                due.fault("field reach 3 error 1 pace 2 falls " + (sign == ' ' ? " ^" : "^" + one), 1);
            }
        }
    }

    private static void wordsAndWholes(Due due) {
        due.sound(WALL + ";drum a 0 0", 0);
        due.sound(WALL + ";drum abcdefgh 0 0", 0);
        due.fault(WALL + ";drum ^abcdefghi 0 0", 1);
        due.fault(WALL + ";drum ^abcdefghijklmnopq 0 0", 1);
        due.fault(WALL + ";drum abcdefgh ^i 0 0", 1);
        due.fault(WALL + ";^drumdrum a 0 0", 1);
        due.fault(WALL + ";^drumdrumd a 0 0", 1);
        due.fault("^fieldreach 3", 1);
        due.sized("field reach 9 error 1 pace 2 falls 5;row ss;row ss;wall 0 0", 0, 0, 9);
        due.sized("field reach 09 error 1 pace 2 falls 5;row ss;row ss;wall 0 0", 0, 0, 9);
        due.sized("field reach 009 error 1 pace 2 falls 5;row ss;row ss;wall 0 0", 0, 0, 9);
        due.fault("field reach ^0009 error 1 pace 2 falls 5;row ss;row ss;wall 0 0", 1);
        due.fault("field reach ^1000 error", 1);
        due.fault("field reach ^999 error", 4);
        due.fault("field reach 1 ^4 error", 1);
        due.sized("field reach14error1pace2falls5;row ss;row ss;wall 0 0", 0, 0, 14);
        due.sound("field reach 3 error 1 pace 2 falls 5;row ss;row ss;wall 0 0;drum a0 1;dig b miners1 0w;heard a7 1", 1);
        due.fault(WALL + ";drum a 00^", 1);
        due.fault(WALL + ";dig a miners 0 0e ^w", 1);
        due.sound("     field   reach   3 error 1 pace 2 falls 5   ;   row ss   ;row ss;wall 0 0     ", 0);
    }

    // ---- LINES

    /** "(1 .. 14; 0 .. 3; 1 .. 9; 0 .. 100 in a hundred)" */
    private static void numbersOfTheField(Due due) {
        String[] words = {"reach", "error", "pace", "falls"};
        int[] least = {1, 0, 1, 0};
        int[] most = {14, 3, 9, 100};
        for (int i = 0; i < 4; i++) {
            int[] all = {0, 1, 2, most[i] - 1, most[i], most[i] + 1, 99, 100, 101, 999};
            for (int value : all) {
                String text = "field";
                int place = 0;
                for (int j = 0; j < 4; j++) {
                    text += " " + words[j] + " ";
                    place = j == i ? text.length() : place;
                    text += j == i ? value : most[j];
                }
                text += ";row ss;row ss;wall 0 0";
                if (value >= least[i] && value <= most[i]) {
                    due.sized(text, 0, i, value);
                } else {
                    due.fault(text, 4, place);
                }
            }
        }
        for (int i = 0; i < 4; i++) {
            String text = "field";
            for (int j = 0; j < i; j++) {
                text += " " + words[j] + " 1";
            }
            due.fault(text + "^", 1);
            due.fault(text + "^;", 1);
            due.fault(text + " " + words[i] + "^", 1);
            due.fault(text + " ^" + words[(i + 1) % 4] + " 1", 1);
        }
    }

    /** "2 to 8 rows" */
    private static void rows(Due due) {
        String text = HEAD;
        for (int count = 0; count <= 8; count++) {
            if (count < 2) {
                due.fault(text + ";^wall 0 0", 6);
                due.fault(text + ";^drum a 0 0", 6);
                due.fault(text + ";^dig a miners 0 0 e", 6);
                due.fault(text + ";^heard a 0 0", 6);
                due.fault(text + "^", 6);
            } else {
                due.sized(text + ";wall 1 " + (count - 1), 0, 5, count);
                due.fault(text + ";wall 1 ^" + count, 4);
            }
            text += ";row ss";
        }
        due.fault(text + ";wall 0 0", 5, text.length() - 6);
        due.fault(text, 5, text.length() - 6);
        due.fault(text.substring(0, text.length() - 3), 5, text.length() - 6);
        due.fault(text.substring(0, text.length() - 3) + " x", 5, text.length() - 6);
    }

    /** "ROW: a WORD of 2 to 8 letters, as many in each" */
    private static void cellsInARow(Due due) {
        for (int width = 1; width <= 10; width++) {
            String row = "s".repeat(width);
            String text = HEAD + ";row " + row + ";row " + row + ";wall " + (width - 1) + " 1";
            if (width == 1 || width > 8) {
                due.fault(text, width == 1 ? 7 : 1, text.indexOf("row") + 4);
            } else {
                due.sized(text, 0, 4, width);
                due.fault(HEAD + ";row " + row + ";row " + row + ";wall ^" + width + " 1", 4);
                due.fault(HEAD + (width == 8 ? ";row ^ssssssss" + "s;row s" : ";row " + row + "s;row ^" + row), width == 8 ? 1 : 7);
                due.fault(HEAD + ";row " + row + ";row ^" + row + "s", width == 8 ? 1 : 7);
                due.fault(HEAD + ";row " + row + ";row " + row + ";row ^" + row.substring(1), 7);
            }
        }
        due.fault(HEAD + ";row^", 1);
        due.fault(HEAD + ";row ^;", 1);
        due.fault(HEAD + ";row ^22", 1);
    }

    private static void soils(Due due) {
        for (char sign = 'a'; sign <= 'z'; sign++) {
            int soil = "scgr".indexOf(sign);
            if (soil >= 0) {
                String text = HEAD + ";row s" + sign + ";row ss;wall 0 0";
                due.sound(text, 0);
                due.is("soil of " + sign, Due.of(text).cell(1, 0, 0), soil);
            } else {
                due.fault(HEAD + ";row ^s" + sign, 7);
                due.fault(HEAD + ";row ss;row ^" + sign + "s;wall 0 0", 7);
            }
        }
        due.sound(HEAD + ";row rr;row rs;wall 1 1", 0);
        due.fault(HEAD + ";row rr;row rr;wall 1 ^1", 7);
        due.sound(HEAD + ";row rrrrrrrr;row rrrrrrrs;wall 7 1", 0);
        for (String word : KEPT) {
            due.fault(HEAD + ";row ^" + word, 7);
        }
    }

    /** "wall WHOLE WHOLE (a CELL), once"; rock at it; out of the field; a second one; none. */
    private static void walls(Due due) {
        String big = HEAD + ";row sssssssr" + ";row ssssssss".repeat(6) + ";row ssssssss";
        int[][] in = {{0, 0}, {6, 0}, {7, 1}, {0, 7}, {7, 7}};
        for (int[] cell : in) {
            String text = big + ";wall " + cell[0] + " " + cell[1] + ";dig a miners 1 1 n";
            due.sound(text, 1);
            due.is("toWall", Due.of(text).toWall(0), Math.abs(cell[0] - 1) + Math.abs(cell[1] - 1));
        }
        due.fault(big + ";wall 7 ^0", 7);
        due.fault(big + ";wall ^8 0", 4);
        due.fault(big + ";wall 0 ^8", 4);
        due.fault(big + ";wall ^8 8", 4);
        due.fault(big + ";wall 7 ^008", 4);
        due.fault(WALL + ";^wall 0 0", 3);
        due.fault(WALL + ";^wall", 3);
        due.fault(WALL + ";^wall 9 9", 3);
        due.fault(WALL + ";drum a 0 0;^wall 1 1", 3);
        due.sound(ROWS + ";drum a 0 0;dig b miners 0 0 s;heard a 0 0;wall 1 1", 1);
        due.fault(ROWS + "^", 6);
        due.fault(ROWS + ";drum a 0 0^", 6);
    }

    /** "up to 4" drums, at any CELL, at one and the same, too. */
    private static void drums(Due due) {
        String text = WALL;
        for (int count = 0; count <= 4; count++) {
            due.sized(text, 0, 6, count);
            due.sized(text + ";dig z miners 0 0 s", 1, 6, count);
            text += ";drum " + (char) ('a' + count) + " 1 1";
        }
        int fifth = text.lastIndexOf(";") + 1;
        due.fault(text, 5, fifth);
        due.fault(text.substring(0, fifth + 4), 5, fifth);
        due.fault(text.substring(0, fifth) + "drum a 9 9", 5, fifth);
        due.sized(text.substring(0, fifth) + "heard d 0 0", 0, 8, 1);
        due.sound(WALL + ";drum a 2 1", 0);
        due.fault(WALL + ";drum a ^3 1", 4);
        due.sound(WALL + ";drum a 1 1", 0);
        due.fault(WALL + ";drum a 1 ^2", 4);
        due.sound(WALL + ";drum a 1 0", 0);
        due.fault(WALL + ";drum a 2 ^0", 7);
        due.fault(WALL + ";drum a 2^", 1);
        due.fault(WALL + ";drum a 2 ^0 0", 7);
    }

    /** "up to 4" galleries, of both SIDES. */
    private static void digs(Due due) {
        String text = WALL;
        for (int count = 0; count <= 4; count++) {
            due.sized(text, count, 7, count);
            due.sized(text + ";drum z 1 1", count, 6, 1);
            text += ";dig " + (char) ('a' + count) + (count % 2 == 0 ? " miners" : " garrison") + " 0 0 e";
        }
        int fifth = text.lastIndexOf(";") + 1;
        due.fault(text, 5, fifth);
        due.fault(text.substring(0, fifth + 3), 5, fifth);
        due.fault(text.substring(0, fifth) + "dig a both", 5, fifth);
        due.sound(WALL + ";dig a miners 2 1 w", 1);
        due.fault(WALL + ";dig a miners ^3 1 w", 4);
        due.fault(WALL + ";dig a miners 2 ^2 w", 4);
        due.fault(WALL + ";dig a miners 2 ^0 w", 7);
        due.fault(WALL + ";dig a ^miner 0 0 e", 1);
        due.fault(WALL + ";dig a ^minerss 0 0 e", 1);
        due.fault(WALL + ";dig a ^garriso 0 0 e", 1);
        due.fault(WALL + ";dig a ^garrisons 0 0 e", 1);
        due.fault(WALL + ";dig a ^0 0 e", 1);
        due.sound(WALL + ";dig miners garrison 0 0 e;dig garrison miners 0 0 e", 2);
    }

    /** "WAY: a WORD of 1 to 8 of n, e, s, w"; out of the field on each side, into rock, and one short of that. */
    private static void ways(Due due) {
        for (int length = 1; length <= 10; length++) {
            String text = WALL + ";dig a miners 0 0 " + "sn".repeat(5).substring(0, length);
            if (length <= 8) {
                due.sound(text, 1);
                due.is("how many its WAY has", Due.of(text).gallery(0, 5), length);
            } else {
                due.fault(text, 1, text.lastIndexOf(" ") + 1);
            }
        }
        due.fault(WALL + ";dig a miners 0 0^", 1);
        due.fault(WALL + ";dig a miners 0 0 ^;", 1);
        due.fault(WALL + ";dig a miners 0 0 ^0", 1);
        String big = HEAD + ";row ssssssss".repeat(8) + ";wall 0 0";
        due.sound(big + ";dig a miners 0 0 eeeeeee;dig b miners 7 7 wwwwwww;dig c miners 0 0 sssssss;dig d miners 7 7 nnnnnnn", 4);
        due.fault(big + ";dig a miners 0 0 ^eeeeeeee", 7);
        due.fault(big + ";dig a miners 7 7 ^wwwwwwww", 7);
        due.fault(big + ";dig a miners 0 0 ^ssssssss", 7);
        due.fault(big + ";dig a miners 7 7 ^nnnnnnnn", 7);
        due.fault(big + ";dig a miners 7 0 ^e", 7);
        due.fault(big + ";dig a miners 0 1 ^w", 7);
        due.fault(big + ";dig a miners 3 7 ^s", 7);
        due.fault(big + ";dig a miners 3 0 ^n", 7);
        due.sound(big + ";dig a miners 0 0 eeeeeees", 1);
        due.sound(WALL + ";dig a miners 0 0 e", 1);
        due.fault(WALL + ";dig a miners 0 0 ^ee", 7);
        due.sound(WALL + ";dig a miners 0 0 ese", 1);
        due.fault(WALL + ";dig a miners 0 0 ^esee", 7);
        due.fault(WALL + ";dig a miners 0 0 ^esen", 7);
        due.fault(WALL + ";dig a miners 0 0 ^een", 7);
        for (char sign = 'a'; sign <= 'z'; sign++) {
            String text = ROWS + ";row sss;wall 0 0;dig a miners 1 1 " + sign;
            if ("nesw".indexOf(sign) >= 0) {
                due.sound(text, 1);
            } else {
                due.fault(text, 7, text.length() - 1);
                due.fault(text + "e", 7, text.length() - 1);
            }
        }
    }

    /** "on night 0 .. 60 the secret pick, so far off, 0 .. 14; each night of a DRUM once; up to 6" */
    private static void heards(Due due) {
        String two = WALL + ";drum a 0 0;drum b 0 0";
        int[] nights = {0, 1, 59, 60, 61, 62, 100, 999};
        for (int night : nights) {
            if (night <= 60) {
                due.sized(two + ";heard a " + night + " 1", 0, 8, 1);
            } else {
                due.fault(two + ";heard a ^" + night + " 1", 4);
            }
        }
        int[] fars = {0, 1, 13, 14, 15, 16, 60, 999};
        for (int far : fars) {
            if (far <= 14) {
                due.sized(two + ";heard a 9 " + far, 0, 8, 1);
            } else {
                due.fault(two + ";heard a 9 ^" + far, 4);
            }
        }
        due.fault(two + ";heard a 9 1;heard a ^9 1", 3);
        due.fault(two + ";heard a 9 1;heard a ^09 2", 3);
        due.fault(two + ";heard a 9 1;heard a ^9", 3);
        due.fault(two + ";heard a 9 1;heard a ^9 99", 3);
        due.fault(two + ";heard a 0 1;heard b 0 1;heard a ^0", 3);
        due.fault(two + ";heard a 60 1;heard b 0 1;heard a ^60", 3);
        due.sized(two + ";heard a 9 1;heard b 9 1;heard a 8 1;heard a 10 1", 0, 8, 4);
        String text = two;
        for (int count = 0; count <= 6; count++) {
            due.sized(text, 0, 8, count);
            text += ";heard a " + count + " 1";
        }
        int seventh = text.lastIndexOf(";") + 1;
        due.fault(text, 5, seventh);
        due.fault(text.substring(0, seventh + 5), 5, seventh);
        due.fault(text.substring(0, seventh) + "heard b 0 1", 5, seventh);
        due.fault(text.substring(0, seventh) + "heard c 99 99", 5, seventh);
    }

    /** "NAMES are WORDS but field, row, wall, drum, dig, heard; each told once, ahead of its use." */
    private static void names(Due due) {
        for (String word : KEPT) {
            due.fault(WALL + ";drum ^" + word + " 0 0", 1);
            due.fault(WALL + ";dig ^" + word + " miners 0 0 e", 1);
            due.fault(WALL + ";heard ^" + word + " 0 0", 1);
            String less = word.substring(1);
            due.sound(WALL + ";drum " + word + "s 0 0;dig " + less + " miners 0 0 e;heard " + word + "s 0 0", 1);
        }
        String[] free = {"reach", "error", "pace", "falls", "miners", "garrison", "ss", "n", "nesw", "z"};
        for (String word : free) {
            due.sound(WALL + ";drum " + word + " 0 0;heard " + word + " 0 0", 0);
            due.sound(WALL + ";dig " + word + " miners 0 0 e", 1);
        }
        due.sound(WALL + ";drum ab 0 0;drum ba 0 0;dig a miners 0 0 e;dig b miners 0 0 e;heard ab 0 0;heard ba 0 0", 2);
        due.fault(WALL + ";drum ab 0 0;heard ^a 0 0", 2);
        due.fault(WALL + ";drum ab 0 0;heard ^abc 0 0", 2);
        due.fault(WALL + ";heard ^ab 0 0;drum ab 0 0", 2);
        due.fault(WALL + ";drum ab 0 0;dig cd miners 0 0 e;heard ^cd 0 0", 2);
        due.fault(WALL + ";heard ^a", 2);
        due.fault(WALL + ";drum ab 0 0;drum ^ab", 3);
        due.fault(WALL + ";drum ab 0 0;dig ^ab", 3);
        due.fault(WALL + ";dig ab miners 0 0 e;dig ^ab", 3);
        due.fault(WALL + ";dig ab miners 0 0 e;drum ^ab", 3);
        due.fault(WALL + ";drum abcdefgh 0 0;drum ^abcdefgh", 3);
        due.sound(WALL + ";drum abcdefgh 0 0;drum abcdefgi 0 0;drum bbcdefgh 0 0;heard abcdefgi 0 0", 0);
        // Eight letters, one of them another: another name.
        for (int i = 0; i < 8; i++) {
            for (char sign = 'b'; sign <= 'z'; sign++) {
                String other = "a".repeat(i) + sign + "a".repeat(7 - i);
                due.sound(WALL + ";drum aaaaaaaa 0 0;dig " + other + " miners 0 0 e;heard aaaaaaaa 0 0", 1);
                due.fault(WALL + ";drum " + other + " 0 0;heard ^aaaaaaaa 0 0", 2);
            }
        }
        // A name of a text with a fault, or of the FIELD ahead, is not told.
        CounterMine m = Due.of(WALL + ";drum a 0 0");
        String text = WALL + ";heard a 0 0";
        tell(due, m, text, 2);
        tell(due, m, WALL + ";drum b 0 0;drum c 9 9", 4);
        tell(due, m, WALL + ";heard b 0 0", 2);
        tell(due, m, WALL + ";drum b 0 0;dig a miners 0 0 e", 0);
        tell(due, m, WALL + ";drum a 0 0;dig b miners 0 0 e;heard a 0 0", 0);
    }

    // ---- FAULTS

    /** "(the end: its place)" and "at the end: no wall": each text cut off behind a TOKEN, with and without blanks there. */
    private static void ends(Due due) {
        String text = WALL + ";drum a 0 0;dig b miners 0 0 e;heard a 0 0";
        for (int n = 0; n < text.length(); n++) {
            if (n == 0 || text.charAt(n) == ' ' || text.charAt(n) == ';' || text.charAt(n - 1) == ';') {
                String cut = text.substring(0, n);
                int[] want = FaultModel.of(cut);
                for (int blanks = 0; blanks < 3; blanks++) {
                    if (want[0] == 0) {
                        due.sound(cut + " ".repeat(blanks), Due.of(cut).size(7));
                    } else {
                        due.fault(cut + " ".repeat(blanks) + "^", want[0]);
                    }
                }
            }
        }
        due.fault("^", 1);
        due.fault(" ^", 1);
        due.fault(HEAD + "^", 6);
        due.fault(HEAD + ";^", 1);
        due.fault(ROWS + "^", 6);
        due.fault(ROWS + ";^", 1);
        due.fault(WALL + ";^", 1);
        due.fault(WALL + ";^;", 1);
        due.fault("^;" + WALL, 1);
        due.fault(WALL + " ^drum a 0 0", 1);
    }

    /** "8 LATE: a row behind anything but a row or the field; at its WORD." */
    private static void lateRows(Due due) {
        String[] lines = {"wall 0 0", "drum a 0 0", "dig b miners 0 0 e"};
        for (String line : lines) {
            due.sound(ROWS + ";row sss;" + line + (line.startsWith("wall") ? "" : ";wall 0 0"), line.startsWith("dig") ? 1 : 0);
            due.fault(ROWS + ";" + line + ";^row sss", 8);
            due.fault(ROWS + ";" + line + ";^row", 8);
            due.fault(ROWS + ";" + line + ";^row ss", 8);
        }
        due.fault(WALL + ";drum a 0 0;heard a 0 0;^row sss", 8);
        due.sound(HEAD + ";row ss;row ss;row ss;wall 0 0", 0);
    }

    /** "of one place the least number" */
    private static void leastOfOnePlace(Due due) {
        String eight = HEAD + ";row ss".repeat(8) + ";wall 0 0";
        due.fault(eight + ";^row ss", 5);
        due.fault(HEAD + ";^" + HEAD, 3);
        due.fault(HEAD + ";row ss;^field", 3);
        due.fault(HEAD + ";row ss;row ss;^field", 3);
        due.fault(WALL + ";^field", 3);
        due.fault("^row ss;row ss;wall 0 0;" + HEAD, 6);
        due.fault("^wall 0 0", 6);
        due.fault("^drum field", 6);
        due.fault("^dig", 6);
        due.fault("^heard", 6);
        due.fault("^rows", 1);
        due.fault(HEAD + ";^rowss", 1);
        due.fault(HEAD + ";^walls", 1);
        due.fault(WALL + ";drum a 2 ^2", 4);
        due.fault(WALL + ";drum a 2 ^0", 7);
    }

    private static void firstFromTheLeft(Due due) {
        due.fault(WALL + ";drum a 0 0;drum ^a 9 9;?", 3);
        due.fault(WALL + ";drum a ^9 0;drum a 0 0", 4);
        due.fault(WALL + ";drum a 2 ^0;drum a 0 0", 7);
        due.fault(WALL + ";^row sss;?", 8);
        due.fault(WALL + ";^?;row sss", 1);
        due.fault(HEAD + ";^wall 9 9;?", 6);
        due.fault("field reach ^99 error abcdefghi", 4);
        due.fault("field reach 9 error ^abcdefghi 99", 1);
    }

    // ---- texts

    private static String padded(String text, int length) {
        return text + " ".repeat(length - text.length());
    }

    /** A sound text of so many bytes, the last one of which is a TOKEN's. */
    private static String stretched(int length) {
        return ROWS + " ".repeat(length - WALL.length()) + ";wall 0 0";
    }
}
