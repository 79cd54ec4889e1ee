import java.util.Random;

/** Promise 24 in mazes by chance (of a fixed seed), where ways must be turned back: held against all sets of cells. */
public final class CutTest {
    public static void main(String[] args) {
        Due due = new Due("CutTest");
        Random random = new Random(1453);
        int fields = args.length > 0 ? Integer.parseInt(args[0]) : 1500;
        int[] seen = new int[5];
        for (int i = 0; i < fields; i++) {
            String text = maze(random);
            CounterMine mine = Due.of(text);
            Model model = new Model(text);
            for (int g = 0; g < model.galleries.size(); g++) {
                int cut = model.cut(g);
                due.is("cut(" + g + ") of " + text, mine.cut(g), cut);
                seen[Math.max(0, cut)]++;
            }
        }
        for (int cut = 0; cut < 4; cut++) {
            due.is("enough cuts of " + cut, seen[cut] > fields / 40, true);
        }
        due.end();
    }

    private static String maze(Random random) {
        int side = 4 + random.nextInt(4);
        double rock = side < 6 ? 0.1 + 0.2 * random.nextDouble() : 0.3 + 0.1 * random.nextDouble();
        StringBuilder text = new StringBuilder("field reach 1 error 0 pace 1 falls 0");
        char[][] soil = new char[side][side];
        for (char[] row : soil) {
            for (int x = 0; x < side; x++) {
                row[x] = random.nextDouble() < rock ? 'r' : 's';
            }
        }
        int wallX = random.nextInt(side);
        int wallY = random.nextInt(side);
        soil[wallY][wallX] = 's';
        // A WAY leads into no rock, so soil lies where a gallery begins and east of that.
        int[][] from = new int[4][];
        for (int g = 0; g < 4; g++) {
            from[g] = new int[] {random.nextInt(side - 1), random.nextInt(side)};
            soil[from[g][1]][from[g][0]] = 's';
            soil[from[g][1]][from[g][0] + 1] = 's';
        }
        for (char[] row : soil) {
            text.append(";row ").append(row);
        }
        text.append(";wall ").append(wallX).append(' ').append(wallY);
        for (int g = 0; g < 4; g++) {
            text.append(";dig ").append((char) ('a' + g)).append(" miners ").append(from[g][0]).append(' ').append(from[g][1]);
            text.append(" e");
        }
        return text.toString();
    }
}
