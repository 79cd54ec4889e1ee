import java.util.ArrayList;
import java.util.Arrays;
import java.util.List;
import java.util.Random;

/** Sound texts, changed by chance (of a fixed seed) here and there: FAULT and place are held against FaultModel's. */
public final class FaultModelTest {
    private static final String SOUND = "field reach 3 error 1 pace 2 falls 5;row ssrc;row sssg;row gsss;wall 0 0;drum a 0 0;"
            + "drum b 3 2;drum c 1 1;dig k miners 0 1 eesw;dig l garrison 3 1 sw;dig m miners 1 2 een;dig n garrison 0 0 s;"
            + "heard a 0 4;heard b 7 3;heard a 9 12;heard c 60 2;heard c 5 5";
    private static final String[] LINES = {"field reach 1 error 0 pace 1 falls 0", "row ssrc", "row ss", "wall 1 1",
        "drum d 0 0", "drum a 0 0", "dig o miners 0 0 s", "dig p garrison 3 2 nwwn", "heard a 3 3", "heard b 7 1", "heard k 1 1",
        "", "row rrrr", "drum e 2 0"};
    private static final String[] WORDS = {"field", "row", "wall", "drum", "dig", "heard", "miners", "garrison", "a", "b", "k",
        "reach", "error", "pace", "falls", "0", "1", "2", "3", "9", "15", "61", "101", "999", "1000", "sssss", "ssss", "rrrr",
        "n", "ee", "nesw", "abcdefgh", "abcdefghi", ";", "", "A", "-1", "x1", "\u00e9", "\n"};

    public static void main(String[] args) {
        Due due = new Due("FaultModelTest");
        Random random = new Random(1529);
        due.is("the sound one", FaultModel.of(SOUND)[0], 0);
        CounterMine mine = new CounterMine();
        int[] seen = new int[9];
        int texts = args.length > 0 ? Integer.parseInt(args[0]) : 20000;
        for (int i = 0; i < texts; i++) {
            String text = changed(random);
            if (text.length() <= 700) {
                int[] want = FaultModel.of(text);
                Due.feed(mine, text);
                boolean taken = mine.field(text.length()) >= 0;
                due.is("field of '" + text + "'", taken, want[0] == 0);
                due.is("fault of '" + text + "'", mine.fault(), want[0]);
                due.is("where of '" + text + "'", mine.where(), want[1]);
                seen[want[0]]++;
            }
        }
        for (int number = 0; number < seen.length; number++) {
            due.is("enough of fault " + number, seen[number] > texts / 200, true);
        }
        due.end();
    }

    private static String changed(Random random) {
        List<String> lines = new ArrayList<>(Arrays.asList(SOUND.split(";")));
        int changes = random.nextInt(3);
        for (int i = 0; i < changes; i++) {
            changeLine(random, lines);
        }
        String text = String.join(random.nextBoolean() ? ";" : " ; ", lines);
        int more = random.nextInt(3);
        for (int i = 0; i < more && !text.isEmpty(); i++) {
            text = changeWord(random, text);
        }
        return text;
    }

    private static void changeLine(Random random, List<String> lines) {
        if (lines.isEmpty()) {
            return;
        }
        int at = random.nextInt(lines.size());
        int other = random.nextInt(lines.size());
        switch (random.nextInt(4)) {
            case 0:
                lines.remove(at);
                break;
            case 1:
                lines.add(at, LINES[random.nextInt(LINES.length)]);
                break;
            case 2:
                lines.add(LINES[random.nextInt(LINES.length)]);
                lines.add(at, lines.get(other));
                break;
            default:
                lines.set(at, lines.set(other, lines.get(at)));
        }
    }

    private static String changeWord(Random random, String text) {
        int at = random.nextInt(text.length());
        String word = WORDS[random.nextInt(WORDS.length)];
        switch (random.nextInt(4)) {
            case 0:
                return text.substring(0, at);
            case 1:
                return text.substring(0, at) + word + text.substring(at);
            case 2:
                return text.substring(0, at) + text.substring(at + 1);
            default:
                int from = text.lastIndexOf(' ', at) + 1;
                int to = text.indexOf(' ', at);
                return text.substring(0, from) + word + (to < 0 ? "" : text.substring(to));
        }
    }
}
