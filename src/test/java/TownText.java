import java.util.ArrayList;
import java.util.HashMap;
import java.util.List;
import java.util.Map;
import java.util.regex.Pattern;

/**
 * TOWNS read and reckoned straight from their text by splitting it, and FAULTS found by trying how a text could go
 * on: another way than the class takes, to hold it against.
 */
final class TownText {
    private static final String NUMBER = "(0|[1-9][0-9]?)";
    private static final Pattern TEST = Pattern.compile("[rkvbtd][<=>]" + NUMBER);
    private static final int[] NO_SUBJECT = new int[6];
    private static final List<String> ENDS = ends();

    final int gap;
    final int paste;
    private final List<Integer> worths = new ArrayList<>();
    private final List<String> wheres = new ArrayList<>();
    private final Map<Integer, Integer> known = new HashMap<>();

    /** Wants a text without FAULT. */
    TownText(String text) {
        int lastGap = 1;
        int lastPaste = 5;
        for (String clause : text.isEmpty() ? new String[0] : text.split(";")) {
            String[] parts = clause.split(" ");
            int n = Integer.parseInt(parts[1]);
            if (parts[0].equals("gap")) lastGap = n;
            if (parts[0].equals("paste")) lastPaste = Math.max(n, 1);
            if (parts.length == 3) {
                worths.add(parts[0].equals("love") ? n : -n);
                wheres.add(parts[2]);
            }
        }
        gap = lastGap;
        paste = lastPaste;
    }

    /** The subject: r, k, v, b, t, d. */
    int plain(int... subject) {
        int key = 0;
        for (int n : subject) {
            key = key * 11 + n;
        }
        return known.computeIfAbsent(key, k -> reckon(subject));
    }

    private int reckon(int[] subject) {
        int sum = 0;
        for (int c = 0; c < worths.size(); c++) {
            if (truth(wheres.get(c), 0, subject)) sum += worths.get(c);
        }
        return sum;
    }

    /** The FAULT of a text, -1 for none. */
    static int fault(String text) {
        if (isTown(text)) return -1;
        for (int n = 0; n < text.length(); n++) {
            if (!canGoOn(text.substring(0, n + 1))) return n;
        }
        return text.length();
    }

    private static boolean canGoOn(String text) {
        for (String end : ENDS) {
            if (isTown(text + end)) return true;
        }
        return false;
    }

    private static List<String> ends() {
        List<String> ends = new ArrayList<>();
        for (String whole : new String[] {"gap 1", "paste 1", "love 1 r=1", "bore 1 r=1"}) {
            for (int from = 0; from <= whole.length(); from++) {
                String brackets = "";
                for (int n = 0; n <= 5; n++) {
                    ends.add(whole.substring(from) + brackets);
                    brackets += ")";
                }
            }
        }
        return ends;
    }

    private static boolean isTown(String text) {
        String[] clauses = text.split(";", -1);
        if (clauses.length > 10) return false;
        for (String clause : clauses) {
            if (!isClause(clause)) return false;
        }
        return true;
    }

    private static boolean isClause(String clause) {
        if (clause.matches("(gap|paste) " + NUMBER)) return true;
        if (!clause.matches("(love|bore) " + NUMBER + " [^ ]+")) return false;
        return isWhere(clause.substring(clause.lastIndexOf(' ') + 1));
    }

    private static boolean isWhere(String text) {
        try {
            truth(text, 0, NO_SUBJECT);
            return true;
        } catch (IllegalArgumentException e) {
            return false;
        }
    }

    /** An E; every part is looked at, so that each fault in it is met. */
    private static boolean truth(String text, int open, int[] subject) {
        boolean any = false;
        for (String both : split(text, '|')) {
            boolean all = true;
            for (String one : split(both, '&')) {
                all &= truthOfOne(one, open, subject);
            }
            any |= all;
        }
        return any;
    }

    private static boolean truthOfOne(String text, int open, int[] subject) {
        boolean isNot = text.startsWith("!");
        if (isNot || text.startsWith("(")) {
            if (open == 5) throw new IllegalArgumentException("too many open");
            if (isNot) return !truthOfOne(text.substring(1), open + 1, subject);
            if (!text.endsWith(")")) throw new IllegalArgumentException("not closed");
            return truth(text.substring(1, text.length() - 1), open + 1, subject);
        }
        if (!TEST.matcher(text).matches()) throw new IllegalArgumentException("no test");
        int value = subject["rkvbtd".indexOf(text.charAt(0))];
        int order = Integer.compare(value, Integer.parseInt(text.substring(2)));
        return order == "<=>".indexOf(text.charAt(1)) - 1;
    }

    /** Splits at the signs that stand in no brackets. */
    private static List<String> split(String text, char sign) {
        List<String> parts = new ArrayList<>();
        int depth = 0;
        int from = 0;
        for (int i = 0; i < text.length(); i++) {
            char c = text.charAt(i);
            if (c == '(') depth++;
            if (c == ')') depth--;
            if (depth < 0) throw new IllegalArgumentException("closed too often");
            if (c == sign && depth == 0) {
                parts.add(text.substring(from, i));
                from = i + 1;
            }
        }
        if (depth != 0) throw new IllegalArgumentException("left open");
        parts.add(text.substring(from));
        return parts;
    }
}
