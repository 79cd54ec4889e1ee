import java.util.Random;

/** Promise 24 in mazes by chance (of a fixed seed), where ways must be turned back: held against all sets of cells. */
public final class CutTest {
    /** In these a way that was turned back must not be gone again: each of a CUT of 3, found by chance. */
    private static final String[] TURNED = {
        "row sssssss;row sssssrs;row sssssss;row srrsssr;row rssssss;row rssrssr;row rrssssr;wall 2 0;dig a miners 4 5 e",
        "row ssrssss;row rrrrsss;row rrsrsss;row rssssss;row sssssrs;row srsssss;row sssrsss;wall 1 4;dig a miners 3 5 e",
        "row srssrr;row rssrrs;row sssssr;row sssssr;row sssrss;row srsssr;wall 3 3;dig a miners 1 4 e",
        "row sssss;row sssss;row srsss;row sssrs;row sssrs;wall 1 1;dig a miners 3 2 e",
    };

    public static void main(String[] args) {
        Due due = new Due("CutTest");
        Random random = new Random(1453);
        int fields = args.length > 0 ? Integer.parseInt(args[0]) : 1500;
        int[] seen = new int[5];
        for (String lines : TURNED) {
            String text = "field reach 1 error 0 pace 1 falls 0;" + lines;
            due.is("cut(0) of " + text, Due.of(text).cut(0), 3);
            due.is("cut(0) by the model of " + text, new Model(text).cut(0), 3);
        }
        for (int i = 0; i < fields; i++) {
            String text = maze(random);
            CounterMine mine = Due.of(text);
            Model model = new Model(text);
            for (int g = 0; g < model.galleries.size(); g++) {
                int cut = model.cut(g);
                due.is("cut(" + g + ") of " + text, mine.cut(g), cut);
                seen[Math.max(0, cut)]++;
            }
        }
        for (int cut = 0; cut < 4; cut++) {
            due.is("enough cuts of " + cut, seen[cut] > fields / 40, true);
        }
        due.end();
    }

    private static String maze(Random random) {
        int side = 4 + random.nextInt(4);
        double rock = side < 6 ? 0.1 + 0.2 * random.nextDouble() : 0.3 + 0.1 * random.nextDouble();
        StringBuilder text = new StringBuilder("field reach 1 error 0 pace 1 falls 0");
        char[][] soil = new char[side][side];
        for (char[] row : soil) {
            for (int x = 0; x < side; x++) {
                row[x] = random.nextDouble() < rock ? 'r' : 's';
            }
        }
        int wallX = random.nextInt(side);
        int wallY = random.nextInt(side);
        soil[wallY][wallX] = 's';
        // A WAY leads into no rock, so soil lies where a gallery begins and east of that.
        int[][] from = new int[4][];
        for (int g = 0; g < 4; g++) {
            from[g] = new int[] {random.nextInt(side - 1), random.nextInt(side)};
            soil[from[g][1]][from[g][0]] = 's';
            soil[from[g][1]][from[g][0] + 1] = 's';
        }
        for (char[] row : soil) {
            text.append(";row ").append(row);
        }
        text.append(";wall ").append(wallX).append(' ').append(wallY);
        for (int g = 0; g < 4; g++) {
            text.append(";dig ").append((char) ('a' + g)).append(" miners ").append(from[g][0]).append(' ').append(from[g][1]);
            text.append(" e");
        }
        return text.toString();
    }
}
