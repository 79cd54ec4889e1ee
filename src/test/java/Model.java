import java.math.BigInteger;
import java.util.ArrayList;
import java.util.HashMap;
import java.util.HashSet;
import java.util.List;
import java.util.Map;
import java.util.Set;

/**
 * The document once more, said as plainly as the Java library lets one and with no thought of room or speed: least
 * nights by relaxing until nothing changes, cuts by trying all sets of cells, fractions by BigInteger. ModelTest holds
 * CounterMine against it. It takes sound texts only, and numbers that are not refused.
 */
final class Model {
    int reach;
    int error;
    int pace;
    int falls;
    final List<String> rows = new ArrayList<>();
    int[] wall;
    final Map<String, int[]> toldDrums = new HashMap<>();
    final List<int[]> drums = new ArrayList<>();
    final List<Gallery> galleries = new ArrayList<>();
    final List<String[]> heard = new ArrayList<>();
    final Set<Integer> dug = new HashSet<>();
    final Set<Integer> broken = new HashSet<>();
    int gone;

    static final class Gallery {
        boolean garrison;
        final List<int[]> cells = new ArrayList<>();
        int come;
        int left;
        boolean shut;

        int[] at() {
            return cells.get(come);
        }

        boolean digs() {
            return !shut && come < cells.size() - 1;
        }
    }

    Model(String text) {
        for (String line : text.split(";")) {
            read(line.trim().split(" +"));
        }
        for (Gallery g : galleries) {
            dug.add(key(g.at()));
        }
        for (Gallery g : galleries) {
            begin(g);
        }
    }

    private void read(String[] words) {
        switch (words[0]) {
            case "field":
                reach = Integer.parseInt(words[2]);
                error = Integer.parseInt(words[4]);
                pace = Integer.parseInt(words[6]);
                falls = Integer.parseInt(words[8]);
                break;
            case "row":
                rows.add(words[1]);
                break;
            case "wall":
                wall = new int[] {Integer.parseInt(words[1]), Integer.parseInt(words[2])};
                break;
            case "drum":
                int[] drum = {Integer.parseInt(words[2]), Integer.parseInt(words[3])};
                toldDrums.put(words[1], drum);
                drums.add(drum);
                break;
            case "dig":
                Gallery g = new Gallery();
                g.garrison = words[2].equals("garrison");
                int[] at = {Integer.parseInt(words[3]), Integer.parseInt(words[4])};
                g.cells.add(at);
                for (char way : words[5].toCharArray()) {
                    at = step(at, " nesw".indexOf(way));
                    g.cells.add(at);
                }
                galleries.add(g);
                break;
            default:
                heard.add(words);
        }
    }

    Model copy() {
        Model other = new Model(rows, wall);
        other.reach = reach;
        other.error = error;
        other.pace = pace;
        other.falls = falls;
        other.toldDrums.putAll(toldDrums);
        other.drums.addAll(drums);
        other.heard.addAll(heard);
        other.dug.addAll(dug);
        other.broken.addAll(broken);
        other.gone = gone;
        for (Gallery g : galleries) {
            Gallery o = new Gallery();
            o.garrison = g.garrison;
            o.cells.addAll(g.cells);
            o.come = g.come;
            o.left = g.left;
            o.shut = g.shut;
            other.galleries.add(o);
        }
        return other;
    }

    private Model(List<String> rows, int[] wall) {
        this.rows.addAll(rows);
        this.wall = wall;
    }

    int width() {
        return rows.get(0).length();
    }

    int height() {
        return rows.size();
    }

    static int key(int[] cell) {
        return cell[0] + 10 * cell[1];
    }

    static int far(int[] a, int[] b) {
        return Math.abs(a[0] - b[0]) + Math.abs(a[1] - b[1]);
    }

    static int[] step(int[] cell, int way) {
        int[] dx = {0, 0, 1, 0, -1};
        int[] dy = {0, -1, 0, 1, 0};
        return new int[] {cell[0] + dx[way], cell[1] + dy[way]};
    }

    boolean soil(int[] cell) {
        return cell[0] >= 0 && cell[0] < width() && cell[1] >= 0 && cell[1] < height()
                && rows.get(cell[1]).charAt(cell[0]) != 'r';
    }

    List<int[]> soils() {
        List<int[]> all = new ArrayList<>();
        for (int y = 0; y < height(); y++) {
            for (int x = 0; x < width(); x++) {
                if (soil(new int[] {x, y})) {
                    all.add(new int[] {x, y});
                }
            }
        }
        return all;
    }

    int nightsOf(int[] cell) {
        if (dug.contains(key(cell))) {
            return 0;
        }
        return 1 + "scg".indexOf(rows.get(cell[1]).charAt(cell[0])) + (broken.contains(key(cell)) ? 1 : 0);
    }

    private void begin(Gallery g) {
        g.left = g.digs() ? Math.max(1, nightsOf(g.cells.get(g.come + 1))) : 0;
    }

    int night() {
        List<Gallery> came = new ArrayList<>();
        int bits = 0;
        for (int i = 0; i < galleries.size(); i++) {
            Gallery g = galleries.get(i);
            if (g.digs() && --g.left == 0) {
                came.add(g);
                bits += 1 << i;
            }
        }
        for (Gallery g : came) {
            g.come++;
            dug.add(key(g.at()));
        }
        for (Gallery g : came) {
            begin(g);
        }
        gone++;
        return bits;
    }

    int blast(int[] cell, int r) {
        int bits = 0;
        for (int i = 0; i < galleries.size(); i++) {
            Gallery g = galleries.get(i);
            bits += !g.shut && far(g.at(), cell) <= r ? 1 << i : 0;
        }
        return bits;
    }

    int charge(int[] cell, int r) {
        int bits = blast(cell, r);
        for (int[] near : soils()) {
            if (far(near, cell) <= r) {
                broken.add(key(near));
                dug.remove(key(near));
            }
        }
        for (int i = 0; i < galleries.size(); i++) {
            if ((bits >> i & 1) == 1) {
                galleries.get(i).shut = true;
                galleries.get(i).left = 0;
            }
        }
        return bits;
    }

    Model ahead(int n) {
        Model then = copy();
        for (int i = 0; i < n; i++) {
            then.night();
        }
        return then;
    }

    int endsIn(int g) {
        int n = 0;
        while (ahead(n).galleries.get(g).digs()) {
            n++;
        }
        return n;
    }

    boolean broke(int g, int other) {
        Gallery a = galleries.get(g);
        Gallery b = galleries.get(other);
        return a.garrison != b.garrison && far(a.at(), b.at()) <= 1;
    }

    int breaksIn(int g, int other) {
        for (int n = 0; n <= 60; n++) {
            if (ahead(n).broke(g, other)) {
                return n;
            }
        }
        return -2;
    }

    /** The night, and behind it which two. */
    int[] firstBreak() {
        for (int n = 0; n <= 60; n++) {
            Model then = ahead(n);
            for (int g = 0; g < galleries.size(); g++) {
                for (int other = g + 1; other < galleries.size(); other++) {
                    if (then.broke(g, other)) {
                        return new int[] {n, 10 * g + other};
                    }
                }
            }
        }
        return new int[] {-2, -2};
    }

    int hears(int d) {
        int best = -2;
        for (Gallery g : galleries) {
            int far = far(g.at(), drums.get(d));
            if (g.digs() && far <= reach && (best == -2 || far < best)) {
                best = far;
            }
        }
        return best;
    }

    boolean overheard(int[] cell) {
        for (int[] drum : drums) {
            if (far(cell, drum) <= reach) {
                return true;
            }
        }
        return false;
    }

    int heardIn(int g) {
        for (int n = 0; n <= 60; n++) {
            Gallery then = ahead(n).galleries.get(g);
            if (then.digs() && overheard(then.at())) {
                return n;
            }
        }
        return -2;
    }

    Map<Integer, Integer> least(int[] from, boolean quiet) {
        Map<Integer, Integer> least = new HashMap<>();
        if (!soil(from) || quiet && overheard(from)) {
            return least;
        }
        least.put(key(from), 0);
        boolean changed = true;
        while (changed) {
            changed = false;
            for (int[] cell : soils()) {
                for (int way = 1; way <= 4 && least.containsKey(key(cell)); way++) {
                    int[] next = step(cell, way);
                    if (soil(next) && !(quiet && overheard(next))) {
                        int nights = least.get(key(cell)) + nightsOf(next);
                        if (least.getOrDefault(key(next), 9999) > nights) {
                            least.put(key(next), nights);
                            changed = true;
                        }
                    }
                }
            }
        }
        return least;
    }

    int cut(int g) {
        int[] from = galleries.get(g).at();
        if (far(from, wall) <= 1) {
            return -2;
        }
        for (int count = 0; count <= 4; count++) {
            if (parts(from, count, 0, new HashSet<>())) {
                return count;
            }
        }
        throw new IllegalStateException();
    }

    private boolean parts(int[] from, int count, int first, Set<Integer> gone) {
        if (!comes(from, gone)) {
            return true;
        }
        List<int[]> soils = soils();
        for (int i = first; i < soils.size() && count > 0; i++) {
            int cell = key(soils.get(i));
            if (cell != key(from) && cell != key(wall)) {
                gone.add(cell);
                boolean parted = parts(from, count - 1, i + 1, gone);
                gone.remove(cell);
                if (parted) {
                    return true;
                }
            }
        }
        return false;
    }

    private boolean comes(int[] from, Set<Integer> gone) {
        List<int[]> queue = new ArrayList<>();
        Set<Integer> seen = new HashSet<>(gone);
        queue.add(from);
        seen.add(key(from));
        for (int i = 0; i < queue.size(); i++) {
            for (int way = 1; way <= 4; way++) {
                int[] next = step(queue.get(i), way);
                if (soil(next) && seen.add(key(next))) {
                    queue.add(next);
                }
            }
        }
        return seen.contains(key(wall));
    }

    int bestBlast(int r) {
        int best = -1;
        int most = -99;
        for (int[] cell : soils()) {
            int worth = 0;
            for (int i = 0; i < galleries.size(); i++) {
                if ((blast(cell, r) >> i & 1) == 1) {
                    worth += galleries.get(i).garrison ? -1 : 1;
                }
            }
            if (worth > most) {
                most = worth;
                best = key(cell);
            }
        }
        return best;
    }

    int[] pick(int[] cell, int way, int night) {
        int[] at = cell;
        for (int n = 1; n <= night; n++) {
            if (n % pace == 0 && way > 0 && soil(step(at, way))) {
                at = step(at, way);
            }
        }
        return at;
    }

    /** Each fit: x, y, way. */
    List<int[]> fits() {
        List<int[]> all = new ArrayList<>();
        for (int[] cell : soils()) {
            for (int way = 0; way < 5; way++) {
                boolean fits = true;
                for (String[] report : heard) {
                    int far = far(pick(cell, way, Integer.parseInt(report[2])), toldDrums.get(report[1]));
                    fits &= Math.abs(far - Integer.parseInt(report[3])) <= error;
                }
                if (fits) {
                    all.add(new int[] {cell[0], cell[1], way});
                }
            }
        }
        return all;
    }

    List<int[]> picks(int night) {
        List<int[]> all = new ArrayList<>();
        for (int[] fit : fits()) {
            all.add(pick(new int[] {fit[0], fit[1]}, fit[2], night));
        }
        return all;
    }

    int beAt(int[] cell, int night) {
        int count = 0;
        for (int[] pick : picks(night)) {
            count += key(pick) == key(cell) ? 1 : 0;
        }
        return count;
    }

    int likely(int night) {
        int best = -2;
        int most = 0;
        for (int[] cell : soils()) {
            if (beAt(cell, night) > most) {
                most = beAt(cell, night);
                best = key(cell);
            }
        }
        return best;
    }

    /** The cell, and how many are left at most. */
    int[] oneMore(int night) {
        int[] best = {-2, -2};
        List<int[]> picks = picks(night);
        for (int[] cell : soils()) {
            Map<Integer, Integer> byFar = new HashMap<>();
            int most = 0;
            for (int[] pick : picks) {
                most = Math.max(most, byFar.merge(far(cell, pick), 1, Integer::sum));
            }
            if (!picks.isEmpty() && (best[0] == -2 || most < best[1])) {
                best = new int[] {key(cell), most};
            }
        }
        return best;
    }

    int meets(int g, int i) {
        Map<Integer, Integer> least = least(galleries.get(g).at(), false);
        int[] fit = fits().get(i);
        for (int n = 0; n <= 60; n++) {
            if (least.getOrDefault(key(pick(new int[] {fit[0], fit[1]}, fit[2], n)), 9999) <= n) {
                return n;
            }
        }
        return -2;
    }

    /** Upper and lower, of one gallery or, with -1, the mean of all. */
    BigInteger[] odds(int g) {
        BigInteger upper = BigInteger.ZERO;
        BigInteger lower = BigInteger.ONE;
        for (int i = 0; i < galleries.size(); i++) {
            if (g == i || g == -1) {
                int cells = galleries.get(i).come + 1;
                BigInteger up = BigInteger.valueOf(100 - falls).pow(cells);
                BigInteger low = BigInteger.valueOf(100).pow(cells);
                upper = upper.multiply(low).add(up.multiply(lower));
                lower = lower.multiply(low);
            }
        }
        BigInteger common = upper.gcd(lower);
        return new BigInteger[] {upper.divide(common), lower.divide(common)};
    }
}
