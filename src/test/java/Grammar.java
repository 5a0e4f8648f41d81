import java.util.ArrayList;
import java.util.List;
import java.util.TreeMap;

/** A second reading of the grammar: one byte after the other, with what may come next. */
public final class Grammar {
    final TreeMap<Character, Integer> rules = new TreeMap<>();
    final List<TreeMap<Character, Integer>> waits = new ArrayList<>();
    final List<int[]> steps = new ArrayList<>();

    private static int[] bounds(char clause, char item) {
        switch ("" + clause + item) {
            case "sn": return new int[] {2, 8};
            case "sd": return new int[] {0, 3};
            case "sb": return new int[] {0, 9};
            case "sl": return new int[] {1, 3};
            case "se": return new int[] {0, 255};
            case "qf": return new int[] {0, 7};
            case "qt": return new int[] {0, 7};
            case "ql": return new int[] {0, 2};
            case "qm": return new int[] {1, 9};
            default: return null;
        }
    }

    private static boolean isDigit(char c) {
        return c >= '0' && c <= '9';
    }

    /** The states: C a clause must come, I an item or ; may come, N a number must come, D inside a number. */
    int rowFault(String tape) {
        char state = 'C';
        char clause = 0;
        char item = 0;
        String digits = "";
        boolean ruled = false;
        TreeMap<Character, Integer> items = null;
        for (int i = 0; i <= tape.length(); i++) {
            char c = i < tape.length() ? tape.charAt(i) : (char) 0;
            if (state == 'D') {
                if (isDigit(c)) {
                    digits += c;
                    if (digits.length() == 4) return i;
                    continue;
                }
                int value = Integer.parseInt(digits);
                int[] b = bounds(clause, item);
                if (value < b[0] || value > b[1]) return i - 1;
                items.put(item, value);
                state = 'I';
            }
            if (c == ' ') continue;
            if (state == 'C') {
                if (c == 's' && !ruled) {
                    ruled = true;
                    items = rules;
                } else if (c == 'q' && waits.size() < 8) {
                    items = new TreeMap<>();
                    waits.add(items);
                } else {
                    return i;
                }
                clause = c;
                state = 'I';
            } else if (state == 'I') {
                if (c == 0) return -1;
                if (c == ';') {
                    state = 'C';
                } else {
                    if (bounds(clause, c) == null || items.containsKey(c)) return i;
                    item = c;
                    state = 'N';
                }
            } else {
                if (!isDigit(c)) return i;
                digits = "" + c;
                state = 'D';
            }
        }
        throw new IllegalStateException();
    }

    /** For each letter what follows: d a digit, n a number of at most two, the comma itself. */
    private static String shape(char c) {
        switch (c) {
            case 'q': return "d,d,d,d";
            case 't': return "n";
            case 'c': case 'h': case 'e': return "d";
            case 'w': return "d,d";
            case 'r': return "d,d,d";
            default: return null;
        }
    }

    int scriptFault(String tape) {
        String rest = null;
        List<Integer> step = null;
        int i = 0;
        while (true) {
            while (i < tape.length() && tape.charAt(i) == ' ') i++;
            char c = i < tape.length() ? tape.charAt(i) : (char) 0;
            if (rest == null) {
                rest = shape(c);
                if (rest == null) return i;
                step = new ArrayList<>();
                step.add("qtchewr".indexOf(c));
                i++;
            } else if (rest.isEmpty()) {
                int[] done = new int[step.size()];
                for (int k = 0; k < done.length; k++) done[k] = step.get(k);
                steps.add(done);
                if (c == 0) return -1;
                if (c != ';' || steps.size() == 16) return i;
                rest = null;
                i++;
            } else if (rest.charAt(0) == ',') {
                if (c != ',') return i;
                rest = rest.substring(1);
                i++;
            } else {
                if (!isDigit(c)) return i;
                int value = c - '0';
                i++;
                if (rest.charAt(0) == 'n' && i < tape.length() && isDigit(tape.charAt(i))) {
                    value = 10 * value + tape.charAt(i) - '0';
                    i++;
                }
                if (i < tape.length() && isDigit(tape.charAt(i))) return i;
                step.add(value);
                rest = rest.substring(1);
            }
        }
    }
}
