/** Promise 1, and promise 49 without a FIELD: a new object has none, and says so in every call. */
public final class NewObjectTest {
    public static void main(String[] args) {
        Due due = new Due("NewObjectTest");
        CounterMine m = new CounterMine();
        due.is("trouble()", m.trouble(), 0);
        due.is("fault()", m.fault(), 0);
        due.is("where()", m.where(), -1);
        for (int what = 0; what <= 12; what++) {
            due.is("size(" + what + ")", m.size(what), 0);
        }
        due.is("size(13)", m.size(13), -1);
        due.is("size(-1)", m.size(-1), -1);
        due.led(m, 0, -1);
        due.is("trouble() behind calls that can't be refused", m.trouble(), 0);
        noneOfNow(due, m);
        noneOfNights(due, m);
        noneOfWays(due, m);
        noneOfSecret(due, m);
        noneOfTheRest(due, m);
        numbersWithoutField(due);
        behindAFault(due);
        due.end();
    }

    /** Without a FIELD there is none such, whether a number that goes with it is right or wrong. */
    private static void numbersWithoutField(Due due) {
        Bound b = new Bound(due, new CounterMine());
        CounterMine m = b.mine;
        int[] all = {Integer.MIN_VALUE, -1, 0, 1, 2, 3, 9, 10, 60, 61, 99, 100, 65536, 65537, Integer.MAX_VALUE};
        for (int n : all) {
            b.refused("placeIn", () -> m.placeIn(0, n), 1);
            b.refused("dugIn", () -> m.dugIn(n), 1);
            b.refused("hears", () -> m.hears(0, n), 1);
            b.refused("within", () -> m.within(0, 0, n), 1);
            b.refused("blast", () -> m.blast(0, 0, n), 1);
            b.refused("bestBlast", () -> m.bestBlast(n), 1);
            b.refused("beAt", () -> m.beAt(0, 0, n), 1);
            b.refused("likely", () -> m.likely(n), 1);
            b.refused("oneMore", () -> m.oneMore(n), 1);
            b.refused("oneMoreLeaves", () -> m.oneMoreLeaves(n), 1);
            b.refused("digs", () -> m.digs(n, false, true, false), -100, 1);
            b.refused("rests", () -> m.rests(n), 1);
            b.refused("rest", () -> m.rest(n), 1);
            b.refused("drawn", () -> m.drawn(n), 1);
            b.refused("charge", () -> m.charge(0, 0, n), 1);
            b.refused("cell", () -> m.cell(n, n, 0), 1);
            b.refused("gallery", () -> m.gallery(n, 0), 1);
            b.refused("move", () -> m.move(n, 0, 0), 1);
            b.refused("back", () -> m.back(n) ? 1 : 0, 0, 1);
            b.refused("odds", () -> m.odds(n, true), 1);
        }
        b.refused("undo", () -> m.undo() ? 1 : 0, 0, 6);
        b.refused("night", () -> m.night(), 1);
        b.refused("image", () -> m.image(), 1);
        b.refused("mean", () -> m.mean(false), 1);
    }

    /** A text with a FAULT makes no FIELD, though most of it was sound. */
    private static void behindAFault(Due due) {
        CounterMine m = new CounterMine();
        String text = "field reach 2 error 0 pace 1 falls 10;row sscs;row sgrs;wall 3 0;drum d 0 0;dig a miners 0 1 e;drum d";
        Due.feed(m, text);
        due.refused(m, "field", m.field(text.length()), -1, 4);
        due.is("fault", m.fault(), 3);
        noneOfNow(due, m);
        noneOfNights(due, m);
        noneOfWays(due, m);
        noneOfSecret(due, m);
        noneOfTheRest(due, m);
    }

    private static void noneOfNow(Due due, CounterMine m) {
        due.refused(m, "cell", fresh(m).cell(0, 0, 0), -1, 1);
        due.refused(m, "gallery", fresh(m).gallery(0, 0), -1, 1);
        due.refused(m, "drum", fresh(m).drum(0), -1, 1);
        due.refused(m, "dug", fresh(m).dug(), -1, 1);
        due.refused(m, "far", fresh(m).far(0, 0, 0, 0), -1, 1);
    }

    private static void noneOfNights(Due due, CounterMine m) {
        due.refused(m, "placeIn", fresh(m).placeIn(0, 61), -1, 1);
        due.refused(m, "dugIn", fresh(m).dugIn(61), -1, 1);
        due.refused(m, "endsIn", fresh(m).endsIn(0), -1, 1);
        due.refused(m, "breaksIn", fresh(m).breaksIn(0, 1), -1, 1);
        due.refused(m, "firstBreak", fresh(m).firstBreak(), -1, 1);
        due.refused(m, "whoBreaks", fresh(m).whoBreaks(), -1, 1);
        due.refused(m, "hears", fresh(m).hears(0, 61), -1, 1);
        due.refused(m, "heardIn", fresh(m).heardIn(0), -1, 1);
    }

    private static void noneOfWays(Due due, CounterMine m) {
        due.refused(m, "nights", fresh(m).nights(0, 0, 0, 0), -1, 1);
        due.refused(m, "quiet", fresh(m).quiet(0, 0, 0, 0), -1, 1);
        due.refused(m, "toWall", fresh(m).toWall(0), -1, 1);
        due.refused(m, "within", fresh(m).within(0, 0, 100), -1, 1);
        due.refused(m, "deaf", fresh(m).deaf(), -1, 1);
        due.refused(m, "cut", fresh(m).cut(0), -1, 1);
        due.refused(m, "blast", fresh(m).blast(0, 0, 3), -1, 1);
        due.refused(m, "bestBlast", fresh(m).bestBlast(3), -1, 1);
    }

    private static void noneOfSecret(Due due, CounterMine m) {
        due.refused(m, "fits", fresh(m).fits(), -1, 1);
        due.refused(m, "fitAt", fresh(m).fitAt(0), -1, 1);
        due.refused(m, "fitWay", fresh(m).fitWay(0), -1, 1);
        due.refused(m, "beAt", fresh(m).beAt(0, 0, 61), -1, 1);
        due.refused(m, "likely", fresh(m).likely(61), -1, 1);
        due.refused(m, "oneMore", fresh(m).oneMore(61), -1, 1);
        due.refused(m, "oneMoreLeaves", fresh(m).oneMoreLeaves(61), -1, 1);
        due.refused(m, "meets", fresh(m).meets(0, 0), -1, 1);
    }

    private static void noneOfTheRest(Due due, CounterMine m) {
        due.refused(m, "digs", fresh(m).digs(10, true, true, true), -100, 1);
        due.refused(m, "rests", fresh(m).rests(10), -1, 1);
        due.refused(m, "rest", fresh(m).rest(10), -1, 1);
        due.refused(m, "odds", fresh(m).odds(0, true), -1, 1);
        due.refused(m, "mean", fresh(m).mean(true), -1, 1);
        due.refused(m, "drawn", fresh(m).drawn(-1), -1, 1);
        due.refused(m, "night", fresh(m).night(), -1, 1);
        due.refused(m, "charge", fresh(m).charge(0, 0, 3), -1, 1);
        due.refused(m, "move", fresh(m).move(0, 0, 0), -1, 1);
        m.dug();
        due.refused(m, "undo", m.undo() ? 1 : 0, 0, 6);
        due.refused(m, "image", fresh(m).image(), -1, 1);
        due.refused(m, "back", fresh(m).back(0) ? 1 : 0, 0, 1);
    }

    /** With a trouble that no call but undo() leaves, so that a call that leaves none is seen. */
    private static CounterMine fresh(CounterMine m) {
        m.undo();
        return m;
    }
}
