import com.sun.management.ThreadMXBean;
import java.lang.management.ManagementFactory;
import java.util.NoSuchElementException;
import java.util.Random;

/** Any arguments in any state: nothing but led's exception is thrown, and no call takes room. */
public final class RoomTest {
    private static final int[] ODD = {Integer.MIN_VALUE, -65537, -2, -1, 0, 1, 2, 3, 4, 5, 7, 8, 9, 10, 60, 61, 64, 99, 100,
        320, 999, 65536, 65537, Integer.MAX_VALUE};
    private static final String FULL = "field reach 4 error 3 pace 1 falls 33;row ssrcssgs;row sssgsscs;row gsssrsss;"
            + "row ssrcssgs;row sssgsscs;row gsssrsss;row ssrcssgs;row sssgsscs;wall 7 7;drum a 0 0;drum b 3 2;drum c 1 1;"
            + "drum d 7 0;dig k miners 0 1 eeswnees;dig l garrison 3 1 swwe;dig m miners 1 2 eenss;"
            + "dig n garrison 0 0 sseeneww;heard a 0 4;heard b 7 3";

    public static void main(String[] args) {
        Due due = new Due("RoomTest");
        Random random = new Random(1683);
        for (int round = 0; round < 200; round++) {
            CounterMine mine = round % 4 == 0 ? new CounterMine() : Due.of(FULL);
            for (int i = 0; i < 512; i++) {
                call(mine, random, random.nextInt(46));
            }
        }
        due.is("512 calls of a kind take no room to speak of", mostRoom() < 4096, true);
        due.is("a new object stays small", roomOfNew() < 40000, true);
        due.end();
    }

    private static int odd(Random random) {
        return random.nextInt(3) > 0 ? random.nextInt(8) : ODD[random.nextInt(ODD.length)];
    }

    private static long mostRoom() {
        ThreadMXBean threads = (ThreadMXBean) ManagementFactory.getThreadMXBean();
        long self = Thread.currentThread().getId();
        Random random = new Random(7);
        CounterMine mine = Due.of(FULL);
        long most = 0;
        for (int kind = 0; kind < 46; kind++) {
            if (kind != 44) {
                call(mine, random, kind);
                long before = threads.getThreadAllocatedBytes(self);
                for (int i = 0; i < 512; i++) {
                    call(mine, random, kind);
                }
                most = Math.max(most, threads.getThreadAllocatedBytes(self) - before);
            }
        }
        return most;
    }

    private static long roomOfNew() {
        ThreadMXBean threads = (ThreadMXBean) ManagementFactory.getThreadMXBean();
        long self = Thread.currentThread().getId();
        long before = threads.getThreadAllocatedBytes(self);
        CounterMine mine = new CounterMine();
        long after = threads.getThreadAllocatedBytes(self);
        return mine.trouble() == 0 ? after - before : Long.MAX_VALUE;
    }

    private static void call(CounterMine m, Random r, int kind) {
        if (kind < 23) {
            early(m, r, kind);
        } else {
            late(m, r, kind);
        }
    }

    private static void early(CounterMine m, Random r, int kind) {
        switch (kind) {
            case 0: m.feed(r.nextInt(), odd(r), 0x66696568, r.nextInt(), odd(r)); break;
            case 1: m.field(odd(r)); break;
            case 2: m.fault(); m.where(); m.trouble(); break;
            case 3: m.cell(odd(r), odd(r), odd(r)); break;
            case 4: m.gallery(odd(r), odd(r)); break;
            case 5: m.drum(odd(r)); break;
            case 6: m.dug(); break;
            case 7: m.far(odd(r), odd(r), odd(r), odd(r)); break;
            case 8: m.placeIn(odd(r), odd(r)); break;
            case 9: m.dugIn(odd(r)); break;
            case 10: m.endsIn(odd(r)); break;
            case 11: m.breaksIn(odd(r), odd(r)); break;
            case 12: m.firstBreak(); break;
            case 13: m.whoBreaks(); break;
            case 14: m.hears(odd(r), odd(r)); break;
            case 15: m.heardIn(odd(r)); break;
            case 16: m.nights(odd(r), odd(r), odd(r), odd(r)); break;
            case 17: m.quiet(odd(r), odd(r), odd(r), odd(r)); break;
            case 18: m.toWall(odd(r)); break;
            case 19: m.within(odd(r), odd(r), odd(r)); break;
            case 20: m.deaf(); break;
            case 21: m.cut(odd(r)); break;
            default: m.blast(odd(r), odd(r), odd(r));
        }
    }

    private static void late(CounterMine m, Random r, int kind) {
        switch (kind) {
            case 23: m.bestBlast(odd(r)); break;
            case 24: m.fits(); break;
            case 25: m.fitAt(odd(r)); break;
            case 26: m.fitWay(odd(r)); break;
            case 27: m.beAt(odd(r), odd(r), odd(r)); break;
            case 28: m.likely(odd(r)); break;
            case 29: m.oneMore(odd(r)); break;
            case 30: m.oneMoreLeaves(odd(r)); break;
            case 31: m.meets(odd(r), odd(r)); break;
            case 32: m.digs(odd(r), r.nextBoolean(), r.nextBoolean(), r.nextBoolean()); break;
            case 33: m.rests(odd(r)); break;
            case 34: m.rest(odd(r)); break;
            case 35: m.odds(odd(r), r.nextBoolean()); break;
            case 36: m.mean(r.nextBoolean()); break;
            case 37: m.drawn(odd(r)); break;
            case 38: m.night(); break;
            case 39: m.charge(odd(r), odd(r), odd(r)); break;
            case 40: m.move(odd(r), odd(r), odd(r)); break;
            case 41: m.undo(); break;
            case 42: m.image(); break;
            case 43: m.back(odd(r)); break;
            case 44: ledOrNone(m, odd(r)); break;
            default: m.size(odd(r));
        }
    }

    private static void ledOrNone(CounterMine m, int i) {
        try {
            m.led(i);
        } catch (NoSuchElementException none) {
            m.trouble();
        }
    }
}
