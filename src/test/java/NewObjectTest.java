/** Promise 1, and promise 49 without a FIELD: a new object has none, and says so in every call. */
public final class NewObjectTest {
    public static void main(String[] args) {
        Due due = new Due("NewObjectTest");
        CounterMine m = new CounterMine();
        due.is("trouble()", m.trouble(), 0);
        due.is("fault()", m.fault(), 0);
        due.is("where()", m.where(), -1);
        for (int what = 0; what <= 12; what++) {
            due.is("size(" + what + ")", m.size(what), 0);
        }
        due.is("size(13)", m.size(13), -1);
        due.is("size(-1)", m.size(-1), -1);
        due.led(m, 0, -1);
        due.is("trouble() behind calls that can't be refused", m.trouble(), 0);
        noneOfNow(due, m);
        noneOfNights(due, m);
        noneOfWays(due, m);
        noneOfSecret(due, m);
        noneOfTheRest(due, m);
        due.end();
    }

    private static void noneOfNow(Due due, CounterMine m) {
        due.refused(m, "cell", m.cell(0, 0, 0), -1, 1);
        due.refused(m, "gallery", m.gallery(0, 0), -1, 1);
        due.refused(m, "drum", m.drum(0), -1, 1);
        due.refused(m, "dug", m.dug(), -1, 1);
        due.refused(m, "far", m.far(0, 0, 0, 0), -1, 1);
    }

    private static void noneOfNights(Due due, CounterMine m) {
        due.refused(m, "placeIn", m.placeIn(0, 61), -1, 1);
        due.refused(m, "dugIn", m.dugIn(61), -1, 1);
        due.refused(m, "endsIn", m.endsIn(0), -1, 1);
        due.refused(m, "breaksIn", m.breaksIn(0, 1), -1, 1);
        due.refused(m, "firstBreak", m.firstBreak(), -1, 1);
        due.refused(m, "whoBreaks", m.whoBreaks(), -1, 1);
        due.refused(m, "hears", m.hears(0, 61), -1, 1);
        due.refused(m, "heardIn", m.heardIn(0), -1, 1);
    }

    private static void noneOfWays(Due due, CounterMine m) {
        due.refused(m, "nights", m.nights(0, 0, 0, 0), -1, 1);
        due.refused(m, "quiet", m.quiet(0, 0, 0, 0), -1, 1);
        due.refused(m, "toWall", m.toWall(0), -1, 1);
        due.refused(m, "within", m.within(0, 0, 100), -1, 1);
        due.refused(m, "deaf", m.deaf(), -1, 1);
        due.refused(m, "cut", m.cut(0), -1, 1);
        due.refused(m, "blast", m.blast(0, 0, 3), -1, 1);
        due.refused(m, "bestBlast", m.bestBlast(3), -1, 1);
    }

    private static void noneOfSecret(Due due, CounterMine m) {
        due.refused(m, "fits", m.fits(), -1, 1);
        due.refused(m, "fitAt", m.fitAt(0), -1, 1);
        due.refused(m, "fitWay", m.fitWay(0), -1, 1);
        due.refused(m, "beAt", m.beAt(0, 0, 61), -1, 1);
        due.refused(m, "likely", m.likely(61), -1, 1);
        due.refused(m, "oneMore", m.oneMore(61), -1, 1);
        due.refused(m, "oneMoreLeaves", m.oneMoreLeaves(61), -1, 1);
        due.refused(m, "meets", m.meets(0, 0), -1, 1);
    }

    private static void noneOfTheRest(Due due, CounterMine m) {
        due.refused(m, "digs", m.digs(10, true, true, true), -100, 1);
        due.refused(m, "rests", m.rests(10), -1, 1);
        due.refused(m, "rest", m.rest(10), -1, 1);
        due.refused(m, "odds", m.odds(0, true), -1, 1);
        due.refused(m, "mean", m.mean(true), -1, 1);
        due.refused(m, "drawn", m.drawn(-1), -1, 1);
        due.refused(m, "night", m.night(), -1, 1);
        due.refused(m, "charge", m.charge(0, 0, 3), -1, 1);
        due.refused(m, "move", m.move(0, 0, 0), -1, 1);
        due.refused(m, "undo", m.undo() ? 1 : 0, 0, 6);
        due.refused(m, "image", m.image(), -1, 1);
        due.refused(m, "back", m.back(0) ? 1 : 0, 0, 1);
    }
}
