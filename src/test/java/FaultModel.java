import java.util.ArrayList;
import java.util.HashMap;
import java.util.HashSet;
import java.util.List;
import java.util.Map;
import java.util.Set;
import java.util.TreeSet;
import java.util.regex.Matcher;
import java.util.regex.Pattern;

/**
 * The first part of the document's terms once more: all TOKENS are found first, then for each in its slot of its LINE
 * all faults that it has; the least of the first one that has any is the text's.
 */
final class FaultModel {
    private static final Pattern TOKEN = Pattern.compile("[a-z]+|[0-9]+|;|[^ ]", Pattern.DOTALL);
    private static final Map<String, String[]> LINES = new HashMap<>();

    static {
        LINES.put("field", new String[] {"reach", "1-14", "error", "0-3", "pace", "1-9", "falls", "0-100"});
        LINES.put("row", new String[] {"ROW"});
        LINES.put("wall", new String[] {"X", "Y"});
        LINES.put("drum", new String[] {"NEW", "X", "Y"});
        LINES.put("dig", new String[] {"NEW", "SIDE", "X", "Y", "WAY"});
        LINES.put("heard", new String[] {"DRUM", "NIGHT", "0-14"});
    }

    private final List<String> rows = new ArrayList<>();
    private final Map<String, String> names = new HashMap<>();
    private final Map<String, Integer> lines = new HashMap<>();
    private final Set<String> nights = new HashSet<>();
    private String sort = "";
    private String drum = "";
    private int x;
    private int y;

    /** The number and the place; 0 and -1 of a sound text. */
    static int[] of(String text) {
        return new FaultModel().read(text);
    }

    private int[] read(String text) {
        Matcher token = TOKEN.matcher(text);
        String[] slots = {};
        int slot = -1;
        while (token.find()) {
            String word = token.group();
            TreeSet<Integer> faults = new TreeSet<>();
            if (!word.matches("[a-z]{1,8}|[0-9]{1,3}|;")) {
                faults.add(1);
            } else if (slot == -1) {
                faults.addAll(ofLine(word));
                slots = LINES.getOrDefault(word, slots);
                sort = word;
                slot = 0;
            } else if (slot < slots.length) {
                faults.addAll(ofSlot(slots[slot], word));
                slot++;
            } else if (word.equals(";")) {
                slot = -1;
            } else {
                faults.add(1);
            }
            if (!faults.isEmpty()) {
                return new int[] {faults.first(), token.start()};
            }
        }
        if (slot == -1 || slot < slots.length) {
            return new int[] {1, text.length()};
        }
        return lines.containsKey("wall") ? new int[] {0, -1} : new int[] {6, text.length()};
    }

    private TreeSet<Integer> ofLine(String word) {
        TreeSet<Integer> faults = new TreeSet<>();
        if (!LINES.containsKey(word)) {
            faults.add(1);
            return faults;
        }
        int had = lines.getOrDefault(word, 0);
        lines.put(word, had + 1);
        boolean alone = word.equals("field") || word.equals("wall");
        if (alone && had == 1) {
            faults.add(3);
        }
        int room = word.equals("row") ? 8 : word.equals("heard") ? 6 : 4;
        if (!alone && had == room) {
            faults.add(5);
        }
        if (!word.equals("field") && !lines.containsKey("field")) {
            faults.add(6);
        }
        if (!word.equals("field") && !word.equals("row") && rows.size() < 2) {
            faults.add(6);
        }
        if (word.equals("row") && !(sort.equals("") || sort.equals("field") || sort.equals("row"))) {
            faults.add(8);
        }
        return faults;
    }

    private TreeSet<Integer> ofSlot(String slot, String word) {
        TreeSet<Integer> faults = new TreeSet<>();
        boolean whole = word.matches("[0-9]+");
        boolean letters = word.matches("[a-z]+");
        boolean name = letters && !LINES.containsKey(word);
        switch (slot) {
            case "ROW":
                add(faults, 1, !letters);
                add(faults, 7, letters && (!word.matches("[scgr]{2,8}") || !rows.isEmpty() && rows.get(0).length() != word.length()));
                rows.add(word);
                break;
            case "X":
                x = whole ? Integer.parseInt(word) : 0;
                add(faults, 1, !whole);
                add(faults, 4, whole && x >= rows.get(0).length());
                break;
            case "Y":
                y = whole ? Integer.parseInt(word) : 0;
                add(faults, 1, !whole);
                add(faults, 4, whole && y >= rows.size());
                add(faults, 7, whole && y < rows.size() && rows.get(y).charAt(x) == 'r');
                break;
            case "NEW":
                add(faults, 1, !name);
                add(faults, 3, names.containsKey(word));
                names.put(word, sort);
                break;
            case "DRUM":
                add(faults, 1, !name);
                add(faults, 2, !names.getOrDefault(word, "").equals("drum"));
                drum = word;
                break;
            case "NIGHT":
                add(faults, 1, !whole);
                add(faults, 4, whole && Integer.parseInt(word) > 60);
                add(faults, 3, whole && !nights.add(drum + " " + Integer.parseInt(word)));
                break;
            case "SIDE":
                add(faults, 1, !word.equals("miners") && !word.equals("garrison"));
                break;
            case "WAY":
                add(faults, 1, !letters);
                add(faults, 7, letters && !leads(word));
                break;
            default:
                ofFixed(faults, slot, word, whole);
        }
        return faults;
    }

    private void ofFixed(TreeSet<Integer> faults, String slot, String word, boolean whole) {
        if (slot.contains("-")) {
            int least = Integer.parseInt(slot.substring(0, slot.indexOf('-')));
            int most = Integer.parseInt(slot.substring(slot.indexOf('-') + 1));
            add(faults, 1, !whole);
            add(faults, 4, whole && (Integer.parseInt(word) < least || Integer.parseInt(word) > most));
        } else {
            add(faults, 1, !word.equals(slot));
        }
    }

    private boolean leads(String way) {
        for (char to : way.toCharArray()) {
            x += to == 'e' ? 1 : to == 'w' ? -1 : 0;
            y += to == 's' ? 1 : to == 'n' ? -1 : 0;
            boolean in = x >= 0 && y >= 0 && y < rows.size() && x < rows.get(0).length();
            if ("nesw".indexOf(to) < 0 || !in || rows.get(y).charAt(x) == 'r') {
                return false;
            }
        }
        return true;
    }

    private static void add(Set<Integer> faults, int number, boolean so) {
        if (so) {
            faults.add(number);
        }
    }
}
