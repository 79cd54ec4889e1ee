import java.util.NoSuchElementException;

/** Mines and counter-mines under a wall, as ../shared/DOC.md tells them; README.md says how it is used. */
public final class CounterMine {
    public static final int NONE = -1;

    /** An answer "there is none" of a call that is not refused. */
    private static final int NOTHING = -2;
    private static final int NO_GAIN = -100;

    private static final int NONE_SUCH = 1;
    private static final int NUMBER = 2;
    private static final int NO_ROOM = 3;
    private static final int FAULTY = 4;
    private static final int NOT_SO = 5;
    private static final int THERE_IS_NONE = 6;

    private static final int LAST_NIGHT = 60;
    private static final int MOST_NIGHTS = 999;
    private static final int MOST_WITHIN = 99;
    private static final int MOST_POWER = 2;
    private static final int MOST_POWDER = 9;
    private static final int SEEDS = 65537;

    private static final int ENDED = 0;
    private static final int PAIR_BROKE = 1;
    private static final int ANY_BROKE = 2;
    private static final int WAS_HEARD = 3;

    private final Reader reader = new Reader();
    private final Works now = new Works();
    private final Works then = new Works();
    private final Past past = new Past();
    private final Ways ways = new Ways();
    private final Cut cutter = new Cut();
    private final Secret secret = new Secret();
    private final Share share = new Share();
    private Plan plan = new Plan();
    private Plan spare = new Plan();
    private boolean told = false;
    private int trouble = 0;

    public CounterMine() {
    }

    // ---- the field

    public int feed(int a, int b, int c, int d, int e) {
        Tape tape = reader.tape;
        if (!tape.hasRoom()) {
            return NONE;
        }
        tape.put(a);
        tape.put(b);
        tape.put(c);
        tape.put(d);
        tape.put(e);
        return tape.held;
    }

    public int field(int n) {
        if (n < 0 || n > reader.tape.held) {
            return refuse(NUMBER);
        }
        reader.start(n, spare);
        boolean more = true;
        for (int lines = 0; lines <= Tape.ROOM && more; lines++) {
            more = reader.readLine();
        }
        if (reader.fault != 0) {
            return refuse(FAULTY);
        }
        Plan read = spare;
        spare = plan;
        plan = read;
        told = true;
        now.begin(plan);
        past.clear();
        secret.gather(plan);
        trouble = 0;
        return plan.galleries;
    }

    public int fault() {
        return reader.fault;
    }

    public int where() {
        return trouble == FAULTY ? reader.place : NONE;
    }

    // ---- now

    public int cell(int x, int y, int what) {
        if (!allowed(plan.holds(x, y) && what >= 0 && what <= 4)) {
            return NONE;
        }
        int cell = Board.at(x, y);
        switch (what) {
            case 0:
                return plan.soilAt(cell);
            case 1:
                return plan.isSoil(cell) ? now.toDig(plan, cell) : NOTHING;
            case 2:
                return Board.has(now.dug, cell) ? 1 : 0;
            case 3:
                return Board.has(now.broken, cell) ? 1 : 0;
            default:
                return now.galleriesNear(plan, cell, 0);
        }
    }

    public int gallery(int g, int what) {
        if (!allowed(isGallery(g) && what >= 0 && what <= 5)) {
            return NONE;
        }
        switch (what) {
            case 0:
                return plan.side[g];
            case 1:
                return Board.whole(now.placeOf(plan, g));
            case 2:
                return now.come[g];
            case 3:
                return now.left[g];
            case 4:
                return now.shut >> g & 1;
            default:
                return plan.length[g];
        }
    }

    public int drum(int d) {
        if (!allowed(isDrum(d))) {
            return NONE;
        }
        return Board.whole(now.drumAt[d]);
    }

    public int dug() {
        if (!allowed(told)) {
            return NONE;
        }
        return Long.bitCount(now.dug);
    }

    public int far(int x, int y, int toX, int toY) {
        if (!allowed(plan.holds(x, y) && plan.holds(toX, toY))) {
            return NONE;
        }
        return Board.apart(Board.at(x, y), Board.at(toX, toY));
    }

    // ---- nights to come

    public int placeIn(int g, int n) {
        if (!allowed(isGallery(g), isNight(n))) {
            return NONE;
        }
        lookAhead(n);
        return Board.whole(then.placeOf(plan, g));
    }

    public int dugIn(int n) {
        if (!allowed(told, isNight(n))) {
            return NONE;
        }
        lookAhead(n);
        return Long.bitCount(then.dug);
    }

    public int endsIn(int g) {
        if (!allowed(isGallery(g))) {
            return NONE;
        }
        return firstNight(ENDED, g, g);
    }

    public int breaksIn(int g, int other) {
        if (!allowed(isGallery(g) && isGallery(other) && plan.side[g] != plan.side[other])) {
            return NONE;
        }
        return firstNight(PAIR_BROKE, g, other);
    }

    public int firstBreak() {
        if (!allowed(told)) {
            return NONE;
        }
        return firstNight(ANY_BROKE, 0, 0);
    }

    public int whoBreaks() {
        if (!allowed(told)) {
            return NONE;
        }
        return firstNight(ANY_BROKE, 0, 0) < 0 ? NOTHING : then.firstPair(plan);
    }

    public int hears(int d, int n) {
        if (!allowed(isDrum(d), isNight(n))) {
            return NONE;
        }
        lookAhead(n);
        return then.nearestPick(plan, d);
    }

    public int heardIn(int g) {
        if (!allowed(isGallery(g))) {
            return NONE;
        }
        return firstNight(WAS_HEARD, g, g);
    }

    // ---- ways

    public int nights(int x, int y, int toX, int toY) {
        if (!allowed(plan.holds(x, y) && plan.holds(toX, toY))) {
            return NONE;
        }
        ways.spread(plan, now, Board.at(x, y), plan.soilCells);
        return ways.leastTo(Board.at(toX, toY));
    }

    public int quiet(int x, int y, int toX, int toY) {
        if (!allowed(plan.holds(x, y) && plan.holds(toX, toY))) {
            return NONE;
        }
        ways.spread(plan, now, Board.at(x, y), now.unheard(plan));
        return ways.leastTo(Board.at(toX, toY));
    }

    public int toWall(int g) {
        if (!allowed(isGallery(g))) {
            return NONE;
        }
        ways.spread(plan, now, now.placeOf(plan, g), plan.soilCells);
        return ways.leastTo(plan.wall);
    }

    public int within(int x, int y, int n) {
        if (!allowed(plan.holds(x, y), n >= 0 && n <= MOST_WITHIN)) {
            return NONE;
        }
        ways.spread(plan, now, Board.at(x, y), plan.soilCells);
        return ways.countWithin(n);
    }

    public int deaf() {
        if (!allowed(told)) {
            return NONE;
        }
        return Long.bitCount(now.unheard(plan));
    }

    public int cut(int g) {
        if (!allowed(isGallery(g))) {
            return NONE;
        }
        return cutter.fewest(plan, now.placeOf(plan, g), plan.wall);
    }

    public int blast(int x, int y, int r) {
        if (!allowed(isSoil(x, y), isPower(r))) {
            return NONE;
        }
        return now.openNear(plan, Board.at(x, y), r);
    }

    public int bestBlast(int r) {
        if (!allowed(told, isPower(r))) {
            return NONE;
        }
        int best = NONE;
        int most = 0;
        for (int cell = 0; cell < Board.CELLS; cell++) {
            if (plan.isSoil(cell)) {
                int worth = plan.minersAhead(now.openNear(plan, cell, r));
                if (best == NONE || worth > most) {
                    best = cell;
                    most = worth;
                }
            }
        }
        return Board.whole(best);
    }

    // ---- the secret pick

    public int fits() {
        if (!allowed(told)) {
            return NONE;
        }
        return secret.count;
    }

    public int fitAt(int i) {
        if (!allowed(isFit(i))) {
            return NONE;
        }
        return Board.whole(secret.cell[i]);
    }

    public int fitWay(int i) {
        if (!allowed(isFit(i))) {
            return NONE;
        }
        return secret.way[i];
    }

    public int beAt(int x, int y, int n) {
        if (!allowed(plan.holds(x, y), isNight(n))) {
            return NONE;
        }
        secret.tally(plan, n);
        return secret.inCell(Board.at(x, y));
    }

    public int likely(int n) {
        if (!allowed(told, isNight(n))) {
            return NONE;
        }
        if (secret.count == 0) {
            return NOTHING;
        }
        secret.tally(plan, n);
        return Board.whole(secret.fullest());
    }

    public int oneMore(int n) {
        if (!allowed(told, isNight(n))) {
            return NONE;
        }
        if (secret.count == 0) {
            return NOTHING;
        }
        secret.tally(plan, n);
        return Board.whole(secret.bestDrum(plan));
    }

    public int oneMoreLeaves(int n) {
        if (!allowed(told, isNight(n))) {
            return NONE;
        }
        if (secret.count == 0) {
            return NOTHING;
        }
        secret.tally(plan, n);
        return secret.leaves(secret.bestDrum(plan));
    }

    public int meets(int g, int i) {
        if (!allowed(isGallery(g) && isFit(i))) {
            return NONE;
        }
        ways.spread(plan, now, now.placeOf(plan, g), plan.soilCells);
        for (int n = 0; n <= LAST_NIGHT; n++) {
            int least = ways.leastTo(secret.placeOn(plan, i, n));
            if (least >= 0 && least <= n) {
                return n;
            }
        }
        return NOTHING;
    }

    // ---- miners and garrison

    public int digs(int powder, boolean miners, boolean garrison, boolean ofGarrison) {
        if (!allowed(told, isPowder(powder))) {
            return NO_GAIN;
        }
        return ofGarrison ? gain(powder, garrison, miners) : gain(powder, miners, garrison);
    }

    public int rests(int powder) {
        if (!allowed(told, isPowder(powder))) {
            return NONE;
        }
        int count = 0;
        for (int pair = 0; pair < 4; pair++) {
            if (isRest(powder, pair >= 2, pair % 2 == 1)) {
                count++;
            }
        }
        return count;
    }

    public int rest(int powder) {
        if (!allowed(told, isPowder(powder))) {
            return NONE;
        }
        for (int pair = 0; pair < 4; pair++) {
            if (isRest(powder, pair >= 2, pair % 2 == 1)) {
                return pair / 2 * 10 + pair % 2;
            }
        }
        return NOTHING;
    }

    // ---- falls

    public long odds(int g, boolean lower) {
        if (!allowed(isGallery(g))) {
            return NONE;
        }
        share.ofOne(plan.falls, now.come[g] + 1);
        return lower ? share.lower : share.upper;
    }

    public long mean(boolean lower) {
        if (!allowed(told)) {
            return NONE;
        }
        share.ofAll(plan, now);
        return lower ? share.lower : share.upper;
    }

    public int drawn(int seed) {
        if (!allowed(told, seed >= 0 && seed < SEEDS)) {
            return NONE;
        }
        int draw = seed;
        int stand = 0;
        for (int g = 0; g < plan.galleries; g++) {
            boolean falls = false;
            for (int i = 0; i <= now.comeOf(g); i++) {
                draw = (75 * draw + 74) % SEEDS;
                falls = falls || draw % 100 < plan.falls;
            }
            stand |= falls ? 0 : 1 << g;
        }
        return stand;
    }

    // ---- acts

    public int night() {
        if (!allowed(told)) {
            return NONE;
        }
        if (now.nights >= MOST_NIGHTS) {
            return refuse(NO_ROOM);
        }
        past.keep(now);
        return now.passNight(plan);
    }

    public int charge(int x, int y, int r) {
        if (!allowed(isSoil(x, y), isPower(r))) {
            return NONE;
        }
        past.keep(now);
        return now.explode(plan, Board.at(x, y), r);
    }

    public int move(int d, int x, int y) {
        if (!allowed(isDrum(d) && isSoil(x, y))) {
            return NONE;
        }
        int from = now.drumAt[d];
        if (from == Board.at(x, y)) {
            return refuse(NOT_SO);
        }
        past.keep(now);
        now.drumAt[d] = Board.at(x, y);
        return Board.whole(from);
    }

    public boolean undo() {
        boolean done = past.takeBack(now);
        trouble = done ? 0 : THERE_IS_NONE;
        return done;
    }

    public int image() {
        if (!allowed(told)) {
            return NONE;
        }
        int number = past.keepImage(now);
        return number == NONE ? refuse(NO_ROOM) : number;
    }

    public boolean back(int image) {
        return allowed(past.goTo(image, now));
    }

    // ---- what is told

    public int led(int i) throws NoSuchElementException {
        int seen = 0;
        for (int g = 0; g < plan.galleries; g++) {
            if (!now.isDigging(g)) {
                if (seen == i) {
                    return g;
                }
                seen++;
            }
        }
        throw new NoSuchElementException("no such gallery");
    }

    public int size(int what) {
        switch (what) {
            case 0:
                return plan.reach;
            case 1:
                return plan.error;
            case 2:
                return plan.pace;
            case 3:
                return plan.falls;
            case 4:
                return plan.width;
            case 5:
                return plan.height;
            case 6:
                return plan.drums;
            case 7:
                return plan.galleries;
            case 8:
                return plan.reports;
            case 9:
                return now.nights;
            case 10:
                return past.count;
            case 11:
                return past.images;
            case 12:
                return reader.tape.held;
            default:
                return NONE;
        }
    }

    public int trouble() {
        return trouble;
    }

    // ---- what the calls share

    private int refuse(int number) {
        trouble = number;
        return NONE;
    }

    private boolean allowed(boolean there) {
        return allowed(there, true);
    }

    /** That there is none such counts ahead of a wrong number. */
    private boolean allowed(boolean there, boolean number) {
        trouble = 0;
        if (!there) {
            trouble = NONE_SUCH;
        } else if (!number) {
            trouble = NUMBER;
        }
        return trouble == 0;
    }

    private boolean isGallery(int g) {
        return g >= 0 && g < plan.galleries;
    }

    private boolean isDrum(int d) {
        return d >= 0 && d < plan.drums;
    }

    private boolean isFit(int i) {
        return i >= 0 && i < secret.count;
    }

    private boolean isSoil(int x, int y) {
        return plan.holds(x, y) && plan.isSoil(Board.at(x, y));
    }

    private static boolean isNight(int n) {
        return n >= 0 && n <= LAST_NIGHT;
    }

    private static boolean isPower(int r) {
        return r >= 0 && r <= MOST_POWER;
    }

    private static boolean isPowder(int powder) {
        return powder >= 0 && powder <= MOST_POWDER;
    }

    private void lookAhead(int n) {
        then.copy(now);
        for (int i = 0; i < n; i++) {
            then.passNight(plan);
        }
    }

    /** Leaves in then how all stands on the night that it answers. */
    private int firstNight(int what, int g, int other) {
        then.copy(now);
        for (int n = 0; n <= LAST_NIGHT; n++) {
            if (isSo(what, g, other)) {
                return n;
            }
            then.passNight(plan);
        }
        return NOTHING;
    }

    private boolean isSo(int what, int g, int other) {
        switch (what) {
            case ENDED:
                return !then.isDigging(g);
            case PAIR_BROKE:
                return then.touch(plan, g, other);
            case ANY_BROKE:
                return then.firstPair(plan) != NONE;
            case WAS_HEARD:
                return then.isHeard(plan, g);
            default:
                return false;
        }
    }

    private static int gain(int powder, boolean digging, boolean otherDigging) {
        if (digging) {
            return otherDigging ? -powder : 3;
        }
        return otherDigging ? -1 : 1;
    }

    private static boolean isRest(int powder, boolean miners, boolean garrison) {
        return gain(powder, miners, garrison) >= gain(powder, !miners, garrison)
                && gain(powder, garrison, miners) >= gain(powder, !garrison, miners);
    }

    /** Cells are numbered 8 times y and x, whatever the field's width is, so that a set of them is one long. */
    private static final class Board {
        static final int SIDE = 8;
        static final int CELLS = 64;
        static final int NORTH = 1;
        static final int EAST = 2;
        static final int SOUTH = 3;
        static final int WEST = 4;

        private Board() {
        }

        static int at(int x, int y) {
            return SIDE * y + x;
        }

        static int xOf(int cell) {
            return cell & 7;
        }

        static int yOf(int cell) {
            return cell >> 3;
        }

        static int whole(int cell) {
            return xOf(cell) + 10 * yOf(cell);
        }

        static int apart(int cell, int other) {
            return Math.abs(xOf(cell) - xOf(other)) + Math.abs(yOf(cell) - yOf(other));
        }

        static boolean has(long set, int cell) {
            return ((set >>> cell) & 1L) != 0L;
        }

        static boolean isCell(int cell) {
            return cell >= 0 && cell < CELLS;
        }

        /** NONE behind the edge of 8 by 8 cells; a narrower field has rock there. */
        static int beside(int cell, int way) {
            switch (way) {
                case NORTH:
                    return yOf(cell) > 0 ? cell - SIDE : NONE;
                case EAST:
                    return xOf(cell) < SIDE - 1 ? cell + 1 : NONE;
                case SOUTH:
                    return yOf(cell) < SIDE - 1 ? cell + SIDE : NONE;
                case WEST:
                    return xOf(cell) > 0 ? cell - 1 : NONE;
                default:
                    return NONE;
            }
        }
    }

    /** What a text told: it stays as it is until another field is told. */
    private static final class Plan {
        static final int ROCK = 3;
        static final int MOST = 4;
        static final int MOST_REPORTS = 6;
        static final int MOST_STEPS = 8;
        private static final int STRIDE = 9;

        int reach;
        int error;
        int pace;
        int falls;
        int width;
        int height;
        int wall;
        int drums;
        int galleries;
        int reports;
        long soilCells;
        final int[] soil = new int[Board.CELLS];
        final int[] drumAt = new int[MOST];
        final int[] side = new int[MOST];
        final int[] length = new int[MOST];
        private final int[] path = new int[MOST * STRIDE];
        final int[] reportDrum = new int[MOST_REPORTS];
        final int[] reportNight = new int[MOST_REPORTS];
        final int[] reportFar = new int[MOST_REPORTS];

        void clear() {
            reach = 0;
            error = 0;
            pace = 0;
            falls = 0;
            width = 0;
            height = 0;
            wall = 0;
            drums = 0;
            galleries = 0;
            reports = 0;
            soilCells = 0L;
            for (int i = 0; i < soil.length; i++) {
                soil[i] = ROCK;
            }
        }

        boolean holds(int x, int y) {
            return x >= 0 && x < width && y >= 0 && y < height;
        }

        int soilAt(int cell) {
            return Board.isCell(cell) ? soil[cell] : ROCK;
        }

        /** Of cells out of the field, too: no soil is there. */
        boolean isSoil(int cell) {
            return Board.isCell(cell) && Board.has(soilCells, cell);
        }

        void setSoil(int cell, int kind) {
            if (Board.isCell(cell)) {
                soil[cell] = kind;
                soilCells |= kind == ROCK ? 0L : 1L << cell;
            }
        }

        void addDrum(int cell) {
            if (drums < MOST) {
                drumAt[drums] = cell;
                drums++;
            }
        }

        void addReport(int drum, int night, int far) {
            if (reports < MOST_REPORTS) {
                reportDrum[reports] = drum;
                reportNight[reports] = night;
                reportFar[reports] = far;
                reports++;
            }
        }

        boolean isReported(int drum, int night) {
            for (int i = 0; i < reports; i++) {
                if (reportDrum[i] == drum && reportNight[i] == night) {
                    return true;
                }
            }
            return false;
        }

        /** Where a gallery is when it has come to so many cells of its way. */
        int onPath(int g, int steps) {
            if (g < 0 || g >= MOST || steps < 0 || steps > MOST_STEPS) {
                return 0;
            }
            return path[g * STRIDE + steps];
        }

        void setPath(int g, int steps, int cell) {
            if (g >= 0 && g < MOST && steps >= 0 && steps <= MOST_STEPS) {
                path[g * STRIDE + steps] = cell;
            }
        }

        /** Of a set of galleries, how many more are the miners' than the garrison's. */
        int minersAhead(int set) {
            int ahead = 0;
            for (int g = 0; g < galleries; g++) {
                if (((set >> g) & 1) != 0) {
                    ahead += side[g] == 0 ? 1 : -1;
                }
            }
            return ahead;
        }
    }

    /** THE TAPE, and the TOKEN of it that is read now. */
    private static final class Tape {
        static final int ROOM = 700;
        static final int END = 0;
        static final int WORD = 1;
        static final int WHOLE = 2;
        static final int MARK = 3;
        static final int WRONG = 4;
        private static final int FED = 20;
        private static final int LETTERS = 8;
        private static final int DIGITS = 3;

        private final int[] bytes = new int[ROOM];
        int held;
        private int end;
        int start;
        int length;
        int kind;

        boolean hasRoom() {
            return held + FED <= ROOM;
        }

        void put(int number) {
            for (int shift = 24; shift >= 0; shift -= 8) {
                if (held < ROOM) {
                    bytes[held] = (number >>> shift) & 255;
                    held++;
                }
            }
        }

        /** The first n bytes are read from now on; none is held any more. */
        void open(int n) {
            held = 0;
            end = n;
            start = 0;
            length = 0;
            advance();
        }

        void advance() {
            int at = start + length;
            while (at < end && byteAt(at) == ' ') {
                at++;
            }
            start = at;
            kind = at < end ? kindOf(byteAt(at)) : END;
            length = kind == END ? 0 : 1;
            if (kind == WORD || kind == WHOLE) {
                while (at + length < end && kindOf(byteAt(at + length)) == kind) {
                    length++;
                }
                if (length > (kind == WORD ? LETTERS : DIGITS)) {
                    kind = WRONG;
                }
            }
        }

        boolean says(String word) {
            if (kind != WORD || length != word.length()) {
                return false;
            }
            for (int i = 0; i < length; i++) {
                if (byteAt(start + i) != word.charAt(i)) {
                    return false;
                }
            }
            return true;
        }

        int sign(int i) {
            return byteAt(start + i);
        }

        int value() {
            int value = 0;
            for (int i = 0; i < length && i < DIGITS; i++) {
                value = 10 * value + byteAt(start + i) - '0';
            }
            return value;
        }

        /** A word as one number, so that names can be kept and compared without texts. */
        long name() {
            long name = 0L;
            for (int i = 0; i < length && i < LETTERS; i++) {
                name = name << 8 | byteAt(start + i);
            }
            return name;
        }

        private int byteAt(int i) {
            return i >= 0 && i < ROOM ? bytes[i] : 0;
        }

        private static int kindOf(int sign) {
            if (sign >= 'a' && sign <= 'z') {
                return WORD;
            }
            if (sign >= '0' && sign <= '9') {
                return WHOLE;
            }
            return sign == ';' ? MARK : WRONG;
        }
    }

    /** Reads THE TAPE into a plan, from the left, and stops at the first FAULT. */
    private static final class Reader {
        private static final int FORM = 1;
        private static final int UNTOLD = 2;
        private static final int AGAIN = 3;
        private static final int BOUNDS = 4;
        private static final int MANY = 5;
        private static final int LACKS = 6;
        private static final int ROCKY = 7;
        private static final int LATE = 8;
        private static final int LEAST_SIDE = 2;

        final Tape tape = new Tape();
        int fault;
        int place;
        private Plan plan = new Plan();
        private boolean fieldTold;
        private boolean wallTold;
        private boolean rowsOver;
        private final long[] drumName = new long[Plan.MOST];
        private final long[] galleryName = new long[Plan.MOST];

        void start(int n, Plan into) {
            plan = into;
            plan.clear();
            fault = 0;
            place = 0;
            fieldTold = false;
            wallTold = false;
            rowsOver = false;
            tape.open(n);
        }

        /** Whether another line must be read. */
        boolean readLine() {
            if (tape.says("field")) {
                readField();
            } else if (tape.says("row")) {
                readRow();
            } else if (tape.says("wall")) {
                readWall();
            } else if (tape.says("drum")) {
                readDrum();
            } else if (tape.says("dig")) {
                readGallery();
            } else if (tape.says("heard")) {
                readReport();
            } else {
                fail(FORM);
            }
            return fault == 0 && goesOn();
        }

        private boolean goesOn() {
            if (tape.kind == Tape.MARK) {
                tape.advance();
                return true;
            }
            if (tape.kind != Tape.END) {
                fail(FORM);
            } else if (!wallTold) {
                fail(LACKS);
            }
            return false;
        }

        private void readField() {
            if (fieldTold) {
                fail(AGAIN);
                return;
            }
            fieldTold = true;
            tape.advance();
            plan.reach = readNamed("reach", 1, 14);
            plan.error = readNamed("error", 0, 3);
            plan.pace = readNamed("pace", 1, 9);
            plan.falls = readNamed("falls", 0, 100);
        }

        private void readRow() {
            if (plan.height >= Board.SIDE) {
                fail(MANY);
            }
            if (!fieldTold) {
                fail(LACKS);
            }
            if (rowsOver) {
                fail(LATE);
            }
            nextWord();
            if (fault == 0 && !takeRow()) {
                fail(ROCKY);
            }
            if (fault == 0) {
                plan.width = tape.length;
                plan.height++;
                tape.advance();
            }
        }

        private boolean takeRow() {
            if (tape.length < LEAST_SIDE || tape.length > Board.SIDE) {
                return false;
            }
            if (plan.height > 0 && tape.length != plan.width) {
                return false;
            }
            for (int x = 0; x < tape.length; x++) {
                int kind = soilOf(tape.sign(x));
                if (kind == NONE) {
                    return false;
                }
                plan.setSoil(Board.at(x, plan.height), kind);
            }
            return true;
        }

        private void readWall() {
            if (wallTold) {
                fail(AGAIN);
            }
            startBehindRows();
            plan.wall = readCell();
            wallTold = true;
        }

        private void readDrum() {
            if (plan.drums >= Plan.MOST) {
                fail(MANY);
            }
            startBehindRows();
            long name = readNewName();
            int cell = readCell();
            if (fault == 0 && plan.drums < Plan.MOST) {
                drumName[plan.drums] = name;
                plan.addDrum(cell);
            }
        }

        private void readGallery() {
            int g = plan.galleries;
            if (g >= Plan.MOST) {
                fail(MANY);
            }
            startBehindRows();
            long name = readNewName();
            int side = readSide();
            int cell = readCell();
            if (fault == 0 && tape.kind != Tape.WORD) {
                fail(FORM);
            }
            if (fault == 0 && !takeWay(g, cell)) {
                fail(ROCKY);
            }
            if (fault == 0 && g < Plan.MOST) {
                galleryName[g] = name;
                plan.side[g] = side;
                plan.length[g] = tape.length;
                plan.galleries++;
                tape.advance();
            }
        }

        private boolean takeWay(int g, int from) {
            int cell = from;
            plan.setPath(g, 0, cell);
            for (int i = 0; i < tape.length; i++) {
                cell = Board.beside(cell, wayOf(tape.sign(i)));
                if (!plan.isSoil(cell)) {
                    return false;
                }
                plan.setPath(g, i + 1, cell);
            }
            return true;
        }

        private void readReport() {
            if (plan.reports >= Plan.MOST_REPORTS) {
                fail(MANY);
            }
            startBehindRows();
            int drum = readDrumName();
            int nightPlace = tape.start;
            int night = readWhole(0, LAST_NIGHT);
            if (plan.isReported(drum, night)) {
                failAt(AGAIN, nightPlace);
            }
            int far = readWhole(0, 14);
            if (fault == 0) {
                plan.addReport(drum, night, far);
            }
        }

        private void startBehindRows() {
            if (plan.height < LEAST_SIDE) {
                fail(LACKS);
            }
            rowsOver = true;
            if (fault == 0) {
                tape.advance();
            }
        }

        private void nextWord() {
            if (fault == 0) {
                tape.advance();
                if (tape.kind != Tape.WORD) {
                    fail(FORM);
                }
            }
        }

        private int readNamed(String word, int least, int most) {
            if (!tape.says(word)) {
                fail(FORM);
            }
            if (fault == 0) {
                tape.advance();
            }
            return readWhole(least, most);
        }

        private int readWhole(int least, int most) {
            if (tape.kind != Tape.WHOLE) {
                fail(FORM);
            }
            int value = tape.value();
            if (value < least || value > most) {
                fail(BOUNDS);
            }
            if (fault != 0) {
                return 0;
            }
            tape.advance();
            return value;
        }

        private int readCell() {
            int x = readWhole(0, plan.width - 1);
            int second = tape.start;
            int y = readWhole(0, plan.height - 1);
            int cell = Board.at(x, y);
            if (!plan.isSoil(cell)) {
                failAt(ROCKY, second);
            }
            return cell;
        }

        private int readSide() {
            int side = tape.says("garrison") ? 1 : 0;
            if (side == 0 && !tape.says("miners")) {
                fail(FORM);
            }
            if (fault == 0) {
                tape.advance();
            }
            return side;
        }

        private long readNewName() {
            if (!isName()) {
                fail(FORM);
            }
            long name = tape.name();
            if (find(drumName, plan.drums, name) != NONE || find(galleryName, plan.galleries, name) != NONE) {
                fail(AGAIN);
            }
            if (fault == 0) {
                tape.advance();
            }
            return name;
        }

        private int readDrumName() {
            if (!isName()) {
                fail(FORM);
            }
            int drum = find(drumName, plan.drums, tape.name());
            if (drum == NONE) {
                fail(UNTOLD);
            }
            if (fault == 0) {
                tape.advance();
            }
            return drum;
        }

        private boolean isName() {
            return tape.kind == Tape.WORD && !tape.says("field") && !tape.says("row") && !tape.says("wall")
                    && !tape.says("drum") && !tape.says("dig") && !tape.says("heard");
        }

        private static int find(long[] names, int count, long name) {
            for (int i = 0; i < count && i < names.length; i++) {
                if (names[i] == name) {
                    return i;
                }
            }
            return NONE;
        }

        private static int soilOf(int sign) {
            switch (sign) {
                case 's':
                    return 0;
                case 'c':
                    return 1;
                case 'g':
                    return 2;
                case 'r':
                    return Plan.ROCK;
                default:
                    return NONE;
            }
        }

        private static int wayOf(int sign) {
            switch (sign) {
                case 'n':
                    return Board.NORTH;
                case 'e':
                    return Board.EAST;
                case 's':
                    return Board.SOUTH;
                case 'w':
                    return Board.WEST;
                default:
                    return NONE;
            }
        }

        private void fail(int number) {
            failAt(number, tape.start);
        }

        /** Faults are looked for from the left, at one place by their numbers: the first one found stays. */
        private void failAt(int number, int at) {
            if (fault == 0) {
                fault = number;
                place = at;
            }
        }
    }

    /** How all stands on a night: all that acts change. */
    private static final class Works {
        long dug;
        long broken;
        int nights;
        int shut;
        final int[] come = new int[Plan.MOST];
        final int[] left = new int[Plan.MOST];
        final int[] drumAt = new int[Plan.MOST];

        void begin(Plan plan) {
            dug = 0L;
            broken = 0L;
            nights = 0;
            shut = 0;
            for (int d = 0; d < plan.drums; d++) {
                drumAt[d] = plan.drumAt[d];
            }
            for (int g = 0; g < plan.galleries; g++) {
                come[g] = 0;
                dug |= 1L << plan.onPath(g, 0);
            }
            for (int g = 0; g < plan.galleries; g++) {
                startNext(plan, g);
            }
        }

        void copy(Works other) {
            dug = other.dug;
            broken = other.broken;
            nights = other.nights;
            shut = other.shut;
            for (int i = 0; i < Plan.MOST; i++) {
                come[i] = other.come[i];
                left[i] = other.left[i];
                drumAt[i] = other.drumAt[i];
            }
        }

        int passNight(Plan plan) {
            int came = 0;
            for (int g = 0; g < plan.galleries; g++) {
                if (left[g] > 0) {
                    left[g]--;
                    if (left[g] == 0) {
                        come[g]++;
                        dug |= 1L << placeOf(plan, g);
                        came |= 1 << g;
                    }
                }
            }
            for (int g = 0; g < plan.galleries; g++) {
                if (((came >> g) & 1) != 0) {
                    startNext(plan, g);
                }
            }
            nights++;
            return came;
        }

        private void startNext(Plan plan, int g) {
            boolean more = come[g] < plan.length[g];
            left[g] = more ? Math.max(1, toDig(plan, plan.onPath(g, come[g] + 1))) : 0;
        }

        int explode(Plan plan, int cell, int r) {
            int hit = openNear(plan, cell, r);
            for (int i = 0; i < Board.CELLS; i++) {
                if (plan.isSoil(i) && Board.apart(i, cell) <= r) {
                    broken |= 1L << i;
                    dug &= ~(1L << i);
                }
            }
            shut |= hit;
            for (int g = 0; g < plan.galleries; g++) {
                if (((hit >> g) & 1) != 0) {
                    left[g] = 0;
                }
            }
            return hit;
        }

        /** NIGHTS of a cell that isn't rock. */
        int toDig(Plan plan, int cell) {
            if (Board.has(dug, cell)) {
                return 0;
            }
            return plan.soilAt(cell) + (Board.has(broken, cell) ? 2 : 1);
        }

        int placeOf(Plan plan, int g) {
            return plan.onPath(g, comeOf(g));
        }

        int comeOf(int g) {
            return g >= 0 && g < Plan.MOST ? come[g] : 0;
        }

        /** Nights are left for a next cell only while a gallery is not shut and its way goes on. */
        boolean isDigging(int g) {
            return g >= 0 && g < Plan.MOST && left[g] > 0;
        }

        int galleriesNear(Plan plan, int cell, int r) {
            int set = 0;
            for (int g = 0; g < plan.galleries; g++) {
                if (Board.apart(placeOf(plan, g), cell) <= r) {
                    set |= 1 << g;
                }
            }
            return set;
        }

        int openNear(Plan plan, int cell, int r) {
            return galleriesNear(plan, cell, r) & ~shut;
        }

        boolean touch(Plan plan, int g, int other) {
            return Board.apart(placeOf(plan, g), placeOf(plan, other)) <= 1;
        }

        /** The first two that break in on one another, 10 times the lesser and the other one, or NONE. */
        int firstPair(Plan plan) {
            for (int g = 0; g < plan.galleries; g++) {
                for (int other = g + 1; other < plan.galleries; other++) {
                    if (plan.side[g] != plan.side[other] && touch(plan, g, other)) {
                        return 10 * g + other;
                    }
                }
            }
            return NONE;
        }

        int nearestPick(Plan plan, int d) {
            if (d < 0 || d >= Plan.MOST) {
                return NOTHING;
            }
            int nearest = NOTHING;
            for (int g = 0; g < plan.galleries; g++) {
                int apart = Board.apart(placeOf(plan, g), drumAt[d]);
                if (isDigging(g) && apart <= plan.reach && (nearest == NOTHING || apart < nearest)) {
                    nearest = apart;
                }
            }
            return nearest;
        }

        boolean isHeard(Plan plan, int g) {
            return isDigging(g) && isOverheard(plan, placeOf(plan, g));
        }

        private boolean isOverheard(Plan plan, int cell) {
            for (int d = 0; d < plan.drums; d++) {
                if (Board.apart(cell, drumAt[d]) <= plan.reach) {
                    return true;
                }
            }
            return false;
        }

        /** The cells, rock aside, that no drum's reach is over. */
        long unheard(Plan plan) {
            long set = 0L;
            for (int cell = 0; cell < Board.CELLS; cell++) {
                if (plan.isSoil(cell) && !isOverheard(plan, cell)) {
                    set |= 1L << cell;
                }
            }
            return set;
        }
    }

    /** Acts that can be undone, the oldest given up for the newest, and images. */
    private static final class Past {
        private static final int KEPT = 16;
        private static final int IMAGES = 3;

        private final Works[] kept = new Works[KEPT];
        private final Works[] image = new Works[IMAGES];
        private int next;
        int count;
        int images;

        Past() {
            for (int i = 0; i < KEPT; i++) {
                kept[i] = new Works();
            }
            for (int i = 0; i < IMAGES; i++) {
                image[i] = new Works();
            }
        }

        void clear() {
            count = 0;
            images = 0;
        }

        void keep(Works now) {
            kept[next & (KEPT - 1)].copy(now);
            next = (next + 1) & (KEPT - 1);
            count = Math.min(KEPT, count + 1);
        }

        boolean takeBack(Works now) {
            if (count == 0) {
                return false;
            }
            next = (next + KEPT - 1) & (KEPT - 1);
            count--;
            now.copy(kept[next & (KEPT - 1)]);
            return true;
        }

        int keepImage(Works now) {
            if (images >= IMAGES) {
                return NONE;
            }
            image[images].copy(now);
            images++;
            return images - 1;
        }

        boolean goTo(int number, Works now) {
            if (number < 0 || number >= images || number >= IMAGES) {
                return false;
            }
            now.copy(image[number]);
            count = 0;
            return true;
        }
    }

    /** LEAST NIGHTS from one cell to all others. */
    private static final class Ways {
        private final int[] least = new int[Board.CELLS];
        private long settled;

        /** Through the open cells alone, which are soil. */
        void spread(Plan plan, Works works, int from, long open) {
            for (int i = 0; i < least.length; i++) {
                least[i] = NOTHING;
            }
            settled = 0L;
            if (!Board.isCell(from) || !Board.has(open, from)) {
                return;
            }
            least[from] = 0;
            for (int round = 0; round < Board.CELLS; round++) {
                int cell = nearest();
                if (cell == NONE) {
                    return;
                }
                settled |= 1L << cell;
                for (int way = Board.NORTH; way <= Board.WEST; way++) {
                    int to = Board.beside(cell, way);
                    if (to != NONE && Board.has(open & ~settled, to)) {
                        lower(to, leastTo(cell) + works.toDig(plan, to));
                    }
                }
            }
        }

        private int nearest() {
            int cell = NONE;
            for (int i = 0; i < least.length; i++) {
                if (least[i] >= 0 && !Board.has(settled, i) && (cell == NONE || least[i] < leastTo(cell))) {
                    cell = i;
                }
            }
            return cell;
        }

        private void lower(int cell, int nights) {
            if (Board.isCell(cell) && (least[cell] < 0 || nights < least[cell])) {
                least[cell] = nights;
            }
        }

        int leastTo(int cell) {
            return Board.isCell(cell) ? least[cell] : NOTHING;
        }

        int countWithin(int n) {
            int count = 0;
            for (int i = 0; i < least.length; i++) {
                if (least[i] >= 0 && least[i] <= n) {
                    count++;
                }
            }
            return count;
        }
    }

    /**
     * CUT, as the most ways that share no cell between their ends: there are just as many as the fewest cells that
     * part the two. Each cell is two nodes, 2 times the cell where ways come in and one more where they go out.
     */
    private static final class Cut {
        private static final int NODES = 128;

        private final int[] behind = new int[NODES];
        private final int[] queue = new int[NODES];
        private int queued;
        private final long[] flow = new long[5];
        private long through;

        int fewest(Plan plan, int from, int to) {
            if (Board.apart(from, to) <= 1) {
                return NOTHING;
            }
            through = 0L;
            for (int way = 0; way < flow.length; way++) {
                flow[way] = 0L;
            }
            int count = 0;
            for (int i = 0; i < Board.CELLS && findWay(plan, from, to); i++) {
                takeWay(from, to);
                count++;
            }
            return count;
        }

        private boolean findWay(Plan plan, int from, int to) {
            for (int i = 0; i < NODES; i++) {
                behind[i] = NONE;
            }
            queued = 0;
            reach(2 * from + 1, 2 * from + 1);
            for (int i = 0; i < NODES && i < queued; i++) {
                int node = queue[i];
                int cell = node >> 1;
                boolean out = (node & 1) != 0;
                if (node == 2 * to) {
                    return true;
                }
                if (out == Board.has(through, cell) && cell != from) {
                    reach(node ^ 1, node);
                }
                for (int way = Board.NORTH; way <= Board.WEST; way++) {
                    int next = Board.beside(cell, way);
                    if (plan.isSoil(next) && (out ? !flows(cell, way) : flows(next, opposite(way)))) {
                        reach(out ? 2 * next : 2 * next + 1, node);
                    }
                }
            }
            return false;
        }

        private void reach(int node, int from) {
            if (node >= 0 && node < NODES && behind[node] == NONE && queued < NODES) {
                behind[node] = from;
                queue[queued] = node;
                queued++;
            }
        }

        private void takeWay(int from, int to) {
            int node = 2 * to;
            for (int i = 0; i < NODES && node != 2 * from + 1; i++) {
                int before = node >= 0 && node < NODES ? behind[node] : NONE;
                if (before == NONE) {
                    return;
                }
                turn(before, node);
                node = before;
            }
        }

        /** A step out of a cell adds to what flows; a step from where one comes in takes back what flowed. */
        private void turn(int before, int node) {
            int cell = before >> 1;
            int next = node >> 1;
            if (cell == next) {
                through ^= 1L << cell;
                return;
            }
            boolean out = (before & 1) != 0;
            for (int way = Board.NORTH; way <= Board.WEST; way++) {
                if (Board.beside(cell, way) == next) {
                    if (out) {
                        flow[way] |= 1L << cell;
                    } else {
                        flow[opposite(way)] &= ~(1L << next);
                    }
                }
            }
        }

        private boolean flows(int cell, int way) {
            return way >= 0 && way < flow.length && Board.has(flow[way], cell);
        }

        private static int opposite(int way) {
            return way <= Board.EAST ? way + 2 : way - 2;
        }
    }

    /** FITS: they hang on the text alone. */
    private static final class Secret {
        private static final int WAYS = 5;
        private static final int MOST_FITS = 320;
        private static final int FARS = 15;

        final int[] cell = new int[MOST_FITS];
        final int[] way = new int[MOST_FITS];
        int count;
        private final int[] tallied = new int[Board.CELLS];
        private final int[] byFar = new int[FARS];

        void gather(Plan plan) {
            count = 0;
            for (int from = 0; from < Board.CELLS; from++) {
                for (int to = 0; to < WAYS; to++) {
                    if (plan.isSoil(from) && isAsHeard(plan, from, to) && count < MOST_FITS) {
                        cell[count] = from;
                        way[count] = to;
                        count++;
                    }
                }
            }
        }

        private static boolean isAsHeard(Plan plan, int from, int to) {
            for (int i = 0; i < plan.reports; i++) {
                int d = plan.reportDrum[i];
                if (d >= 0 && d < plan.drums) {
                    int far = Board.apart(walk(plan, from, to, plan.reportNight[i]), plan.drumAt[d]);
                    if (Math.abs(far - plan.reportFar[i]) > plan.error) {
                        return false;
                    }
                }
            }
            return true;
        }

        private static int walk(Plan plan, int from, int to, int night) {
            int steps = plan.pace > 0 ? night / plan.pace : 0;
            int at = from;
            for (int i = 0; i < steps && i < Board.SIDE; i++) {
                int next = Board.beside(at, to);
                if (!plan.isSoil(next)) {
                    return at;
                }
                at = next;
            }
            return at;
        }

        int placeOn(Plan plan, int i, int night) {
            return i >= 0 && i < count ? walk(plan, cell[i], way[i], night) : NONE;
        }

        void tally(Plan plan, int night) {
            for (int i = 0; i < tallied.length; i++) {
                tallied[i] = 0;
            }
            for (int i = 0; i < count; i++) {
                int at = placeOn(plan, i, night);
                if (Board.isCell(at)) {
                    tallied[at]++;
                }
            }
        }

        int inCell(int at) {
            return Board.isCell(at) ? tallied[at] : 0;
        }

        int fullest() {
            int best = 0;
            for (int i = 0; i < tallied.length; i++) {
                if (tallied[i] > inCell(best)) {
                    best = i;
                }
            }
            return best;
        }

        int bestDrum(Plan plan) {
            int best = NONE;
            int fewest = 0;
            for (int at = 0; at < Board.CELLS; at++) {
                if (plan.isSoil(at)) {
                    int left = leaves(at);
                    if (best == NONE || left < fewest) {
                        best = at;
                        fewest = left;
                    }
                }
            }
            return best;
        }

        /** How many are left at most if it is told how far from here the secret pick is on the tallied night. */
        int leaves(int at) {
            for (int i = 0; i < byFar.length; i++) {
                byFar[i] = 0;
            }
            int most = 0;
            for (int i = 0; i < tallied.length; i++) {
                int far = Board.apart(i, at);
                if (tallied[i] > 0 && far < byFar.length) {
                    byFar[far] += tallied[i];
                    most = Math.max(most, byFar[far]);
                }
            }
            return most;
        }
    }

    /** A fraction in lowest terms; 100 to the 9th, four times, still fits a long. */
    private static final class Share {
        long upper;
        long lower;

        void ofOne(int falls, int cells) {
            set(100 - falls, 100);
            upper = power(upper, cells);
            lower = power(lower, cells);
        }

        void ofAll(Plan plan, Works works) {
            set(100 - plan.falls, 100);
            int most = 0;
            for (int g = 0; g < plan.galleries; g++) {
                most = Math.max(most, works.comeOf(g) + 1);
            }
            long sum = 0L;
            for (int g = 0; g < plan.galleries; g++) {
                int cells = works.comeOf(g) + 1;
                sum += power(upper, cells) * power(lower, most - cells);
            }
            set(sum, power(lower, most));
        }

        private void set(long over, long under) {
            long common = commonDivisor(over, under);
            upper = common > 0L ? over / common : 0L;
            lower = common > 0L ? under / common : 1L;
        }

        private static long power(long base, int times) {
            long product = 1L;
            for (int i = 0; i < times; i++) {
                product *= base;
            }
            return product;
        }

        private static long commonDivisor(long a, long b) {
            long great = a;
            long small = b;
            for (int i = 0; i < 200 && small != 0L; i++) {
                long rest = great % small;
                great = small;
                small = rest;
            }
            return great;
        }
    }
}
