/** Promises 35 to 37: diggers and listeners, and their rests. */
public final class SidesTest {
    private static final String TEXT = "field reach 1 error 3 pace 1 falls 0;row ss;row ss;wall 0 0";

    public static void main(String[] args) {
        Due due = new Due("SidesTest");
        CounterMine m = Due.of(TEXT);
        for (int powder = 0; powder <= 9; powder++) {
            for (int of = 0; of < 2; of++) {
                boolean garrison = of == 1;
                due.taken(m, "both dig", m.digs(powder, true, true, garrison), -powder);
                due.taken(m, "miners dig", m.digs(powder, true, false, garrison), garrison ? -1 : 3);
                due.taken(m, "garrison digs", m.digs(powder, false, true, garrison), garrison ? 3 : -1);
                due.taken(m, "both listen", m.digs(powder, false, false, garrison), 1);
            }
        }
        due.refused(m, "digs", m.digs(10, true, true, true), -100, 2);
        due.refused(m, "digs", m.digs(-1, false, false, false), -100, 2);
        due.taken(m, "0: both dig", m.rests(0), 1);
        due.taken(m, "0: both dig", m.rest(0), 11);
        due.taken(m, "1: as well alone or both", m.rests(1), 3);
        due.taken(m, "1: the garrison first", m.rest(1), 1);
        for (int powder = 2; powder <= 9; powder++) {
            due.taken(m, "one digs", m.rests(powder), 2);
            due.taken(m, "the garrison first", m.rest(powder), 1);
        }
        due.refused(m, "rests", m.rests(10), -1, 2);
        due.refused(m, "rests", m.rests(-1), -1, 2);
        due.refused(m, "rest", m.rest(10), -1, 2);
        due.refused(m, "rest", m.rest(-1), -1, 2);
        due.end();
    }
}
