import java.math.BigInteger;
import java.util.ArrayList;
import java.util.List;
import java.util.Map;
import java.util.Random;

/** Fields and acts by chance (of a fixed seed): every answer of CounterMine is held against Model's. */
public final class ModelTest {
    private final Due due = new Due("ModelTest");
    private final Random random = new Random(1518);
    private CounterMine mine;
    private Model model;

    public static void main(String[] args) {
        ModelTest test = new ModelTest();
        int fields = args.length > 0 ? Integer.parseInt(args[0]) : 60;
        for (int i = 0; i < fields; i++) {
            test.play(i);
        }
        test.due.end();
    }

    private void play(int round) {
        String text = text(round % 3 == 0 ? 8 : 5);
        // Every other field is told to the object that had the one before.
        if (round % 2 == 0) {
            mine = new CounterMine();
        }
        Due.feed(mine, text);
        model = new Model(text);
        due.is("field of " + text, mine.field(text.length()), model.galleries.size());
        List<Model> past = new ArrayList<>();
        List<Model> images = new ArrayList<>();
        for (int act = 0; act < 24; act++) {
            if (act % 4 == 0) {
                holdAll(text + " behind " + act);
            }
            act(past, images);
        }
    }

    private void act(List<Model> past, List<Model> images) {
        int what = random.nextInt(12);
        Model before = model.copy();
        if (what < 6) {
            due.is("night", mine.night(), model.night());
            past.add(before);
        } else if (what == 6) {
            int[] cell = anySoil();
            int r = random.nextInt(3);
            due.is("charge", mine.charge(cell[0], cell[1], r), model.charge(cell, r));
            past.add(before);
        } else if (what == 7 && !model.drums.isEmpty()) {
            int d = random.nextInt(model.drums.size());
            int[] cell = anySoil();
            int[] from = model.drums.get(d);
            boolean there = Model.key(from) == Model.key(cell);
            due.is("move", mine.move(d, cell[0], cell[1]), there ? -1 : Model.key(from));
            if (!there) {
                model.drums.set(d, cell);
                past.add(before);
            }
        } else if (what == 8 || what == 9) {
            due.is("undo", mine.undo(), !past.isEmpty());
            model = past.isEmpty() ? model : past.remove(past.size() - 1);
        } else if (what == 10) {
            due.is("image", mine.image(), images.size() < 3 ? images.size() : -1);
            if (images.size() < 3) {
                images.add(before);
            }
        } else {
            int image = random.nextInt(3);
            due.is("back", mine.back(image), image < images.size());
            if (image < images.size()) {
                model = images.get(image).copy();
                past.clear();
            }
        }
        if (past.size() > 16) {
            past.remove(0);
        }
        due.is("size(10)", mine.size(10), past.size());
    }

    private void holdAll(String at) {
        holdCells(at);
        holdGalleries(at);
        holdNights(at);
        holdWays(at);
        holdSecret(at);
        holdFalls(at);
    }

    private void holdCells(String at) {
        for (int y = 0; y < model.height(); y++) {
            for (int x = 0; x < model.width(); x++) {
                int[] cell = {x, y};
                int key = Model.key(cell);
                String call = "cell(" + x + ", " + y + ") of " + at;
                due.is(call, mine.cell(x, y, 0), "scgr".indexOf(model.rows.get(y).charAt(x)));
                due.is(call, mine.cell(x, y, 1), model.soil(cell) ? model.nightsOf(cell) : -2);
                due.is(call, mine.cell(x, y, 2), model.dug.contains(key) ? 1 : 0);
                due.is(call, mine.cell(x, y, 3), model.broken.contains(key) ? 1 : 0);
                int there = 0;
                for (int g = 0; g < model.galleries.size(); g++) {
                    there += Model.key(model.galleries.get(g).at()) == key ? 1 << g : 0;
                }
                due.is(call, mine.cell(x, y, 4), there);
                for (int r = 0; r <= 2; r++) {
                    due.is("blast at " + call, mine.blast(x, y, r), model.soil(cell) ? model.blast(cell, r) : -1);
                }
            }
        }
        due.is("dug() of " + at, mine.dug(), model.dug.size());
        due.is("size(9) of " + at, mine.size(9), model.gone);
        for (int r = 0; r <= 2; r++) {
            due.is("bestBlast(" + r + ") of " + at, mine.bestBlast(r), model.bestBlast(r));
        }
        for (int d = 0; d < model.drums.size(); d++) {
            due.is("drum(" + d + ") of " + at, mine.drum(d), Model.key(model.drums.get(d)));
        }
    }

    private void holdGalleries(String at) {
        int led = 0;
        for (int g = 0; g < model.galleries.size(); g++) {
            Model.Gallery gallery = model.galleries.get(g);
            String call = "gallery(" + g + ") of " + at;
            due.is(call, mine.gallery(g, 0), gallery.garrison ? 1 : 0);
            due.is(call, mine.gallery(g, 1), Model.key(gallery.at()));
            due.is(call, mine.gallery(g, 2), gallery.come);
            due.is(call, mine.gallery(g, 3), gallery.digs() ? gallery.left : 0);
            due.is(call, mine.gallery(g, 4), gallery.shut ? 1 : 0);
            due.is(call, mine.gallery(g, 5), gallery.cells.size() - 1);
            if (!gallery.digs()) {
                due.led(mine, led, g);
                led++;
            }
        }
        due.led(mine, led, -1);
    }

    private void holdNights(String at) {
        int n = random.nextInt(61);
        int soon = random.nextInt(8);
        for (int night : new int[] {n, soon}) {
            Model then = model.ahead(night);
            due.is("dugIn(" + night + ") of " + at, mine.dugIn(night), then.dug.size());
            for (int g = 0; g < then.galleries.size(); g++) {
                due.is("placeIn of " + at, mine.placeIn(g, night), Model.key(then.galleries.get(g).at()));
            }
            for (int d = 0; d < model.drums.size(); d++) {
                due.is("hears of " + at, mine.hears(d, night), then.hears(d));
            }
        }
        int[] first = model.firstBreak();
        due.is("firstBreak of " + at, mine.firstBreak(), first[0]);
        due.is("whoBreaks of " + at, mine.whoBreaks(), first[1]);
        for (int g = 0; g < model.galleries.size(); g++) {
            due.is("endsIn of " + at, mine.endsIn(g), model.endsIn(g));
            due.is("heardIn of " + at, mine.heardIn(g), model.heardIn(g));
            for (int other = 0; other < model.galleries.size(); other++) {
                boolean like = model.galleries.get(g).garrison == model.galleries.get(other).garrison;
                due.is("breaksIn of " + at, mine.breaksIn(g, other), like ? -1 : model.breaksIn(g, other));
            }
        }
    }

    private void holdWays(String at) {
        int[] from = {random.nextInt(model.width()), random.nextInt(model.height())};
        Map<Integer, Integer> least = model.least(from, false);
        Map<Integer, Integer> quiet = model.least(from, true);
        int deaf = 0;
        for (int y = 0; y < model.height(); y++) {
            for (int x = 0; x < model.width(); x++) {
                int key = x + 10 * y;
                String call = "to " + x + " " + y + " from " + from[0] + " " + from[1] + " of " + at;
                due.is("nights " + call, mine.nights(from[0], from[1], x, y), least.getOrDefault(key, -2));
                due.is("quiet " + call, mine.quiet(from[0], from[1], x, y), quiet.getOrDefault(key, -2));
                due.is("far " + call, mine.far(from[0], from[1], x, y), Model.far(from, new int[] {x, y}));
                deaf += model.soil(new int[] {x, y}) && !model.overheard(new int[] {x, y}) ? 1 : 0;
            }
        }
        due.is("deaf of " + at, mine.deaf(), deaf);
        for (int n = 0; n <= 99; n += 3) {
            int within = 0;
            for (int nights : least.values()) {
                within += nights <= n ? 1 : 0;
            }
            due.is("within of " + at, mine.within(from[0], from[1], n), within);
        }
        for (int g = 0; g < model.galleries.size(); g++) {
            int[] place = model.galleries.get(g).at();
            due.is("toWall of " + at, mine.toWall(g), model.least(place, false).getOrDefault(Model.key(model.wall), -2));
            if (model.soils().size() <= 25) {
                due.is("cut of " + at, mine.cut(g), model.cut(g));
            }
        }
    }

    private void holdSecret(String at) {
        List<int[]> fits = model.fits();
        due.is("fits of " + at, mine.fits(), fits.size());
        for (int i = 0; i < fits.size() && i < mine.fits(); i++) {
            due.is("fitAt of " + at, mine.fitAt(i), Model.key(fits.get(i)));
            due.is("fitWay of " + at, mine.fitWay(i), fits.get(i)[2]);
        }
        due.is("fitAt behind all of " + at, mine.fitAt(fits.size()), -1);
        int n = random.nextInt(random.nextBoolean() ? 61 : 12);
        int[] cell = anySoil();
        due.is("beAt of " + at, mine.beAt(cell[0], cell[1], n), model.beAt(cell, n));
        due.is("likely of " + at, mine.likely(n), model.likely(n));
        due.is("oneMore of " + at, mine.oneMore(n), model.oneMore(n)[0]);
        int other = random.nextInt(12);
        due.is("oneMoreLeaves of " + at, mine.oneMoreLeaves(other), model.oneMore(other)[1]);
        for (int g = 0; g < model.galleries.size() && !fits.isEmpty(); g++) {
            int i = random.nextInt(fits.size());
            due.is("meets of " + at, mine.meets(g, i), model.meets(g, i));
        }
    }

    private void holdFalls(String at) {
        for (int g = -1; g < model.galleries.size(); g++) {
            BigInteger[] odds = model.odds(g);
            due.is("upper of " + at, g < 0 ? mine.mean(false) : mine.odds(g, false), odds[0].longValueExact());
            due.is("lower of " + at, g < 0 ? mine.mean(true) : mine.odds(g, true), odds[1].longValueExact());
        }
    }

    private int[] anySoil() {
        List<int[]> soils = model.soils();
        return soils.get(random.nextInt(soils.size()));
    }

    private String text(int most) {
        int width = 2 + random.nextInt(most - 1);
        int height = 2 + random.nextInt(most - 1);
        char[][] soil = new char[height][width];
        String soils = random.nextBoolean() ? "sscgr" : "sssscgrr";
        for (char[] row : soil) {
            for (int x = 0; x < width; x++) {
                row[x] = soils.charAt(random.nextInt(soils.length()));
            }
        }
        soil[random.nextInt(height)][random.nextInt(width)] = 's';
        StringBuilder text = new StringBuilder("field reach " + (1 + random.nextInt(random.nextBoolean() ? 3 : 14)));
        text.append(" error ").append(random.nextInt(4)).append(" pace ").append(1 + random.nextInt(9));
        text.append(" falls ").append(random.nextInt(101));
        for (char[] row : soil) {
            text.append(";row ").append(row);
        }
        text.append(";wall ").append(cell(soil));
        int drums = random.nextInt(5);
        for (int d = 0; d < drums; d++) {
            text.append(";drum d").append((char) ('a' + d)).append(' ').append(cell(soil));
        }
        int galleries = random.nextInt(5);
        for (int g = 0; g < galleries; g++) {
            text.append(gallery(soil, (char) ('a' + g)));
        }
        int reports = drums == 0 ? 0 : random.nextInt(4);
        for (int i = 0; i < reports; i++) {
            text.append(";heard d").append((char) ('a' + random.nextInt(drums))).append(' ').append(7 * i + random.nextInt(7));
            text.append(' ').append(random.nextInt(Math.min(15, width + height)));
        }
        return text.toString();
    }

    private String cell(char[][] soil) {
        while (true) {
            int x = random.nextInt(soil[0].length);
            int y = random.nextInt(soil.length);
            if (soil[y][x] != 'r') {
                return x + " " + y;
            }
        }
    }

    /** None if no way leads on from the cell. */
    private String gallery(char[][] soil, char name) {
        String from = cell(soil);
        int x = from.charAt(0) - '0';
        int y = from.charAt(2) - '0';
        StringBuilder way = new StringBuilder();
        int steps = 1 + random.nextInt(8);
        for (int tries = 0; tries < 40 && way.length() < steps; tries++) {
            int to = random.nextInt(4);
            int nextX = x + new int[] {0, 1, 0, -1}[to];
            int nextY = y + new int[] {-1, 0, 1, 0}[to];
            if (nextX >= 0 && nextX < soil[0].length && nextY >= 0 && nextY < soil.length && soil[nextY][nextX] != 'r') {
                x = nextX;
                y = nextY;
                way.append("nesw".charAt(to));
            }
        }
        String side = random.nextBoolean() ? " miners " : " garrison ";
        return way.length() == 0 ? "" : ";dig g" + name + side + from + " " + way;
    }
}
