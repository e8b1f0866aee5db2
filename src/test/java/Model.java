import java.util.ArrayDeque;
import java.util.ArrayList;
import java.util.HashMap;
import java.util.HashSet;
import java.util.List;
import java.util.Map;
import java.util.Set;
import java.util.TreeMap;
import java.util.TreeSet;
import java.util.regex.Matcher;
import java.util.regex.Pattern;

/** What the document says, word by word: a heap is the set of all its rows. For short rows only. */
final class Model {
    final int k;
    final boolean[][] free = new boolean[6][6];
    private final Map<String, TreeSet<String>> heaps = new HashMap<>();

    Model(int k) {
        this.k = k;
    }

    boolean areFree(char p, char q) {
        return free[p - 'a'][q - 'a'];
    }

    TreeSet<String> rows(String word) {
        TreeSet<String> known = heaps.get(word);
        if (known != null) {
            return known;
        }
        TreeSet<String> rows = new TreeSet<>();
        ArrayDeque<String> open = new ArrayDeque<>();
        rows.add(word);
        open.add(word);
        while (!open.isEmpty()) {
            String row = open.remove();
            for (int i = 0; i + 1 < row.length(); i++) {
                if (areFree(row.charAt(i), row.charAt(i + 1))) {
                    String other = row.substring(0, i) + row.charAt(i + 1) + row.charAt(i) + row.substring(i + 2);
                    if (rows.add(other)) {
                        open.add(other);
                    }
                }
            }
        }
        for (String row : rows) {
            heaps.put(row, rows);
        }
        return rows;
    }

    String least(String word) {
        return rows(word).first();
    }

    boolean same(String a, String b) {
        return rows(a).contains(b);
    }

    private static String look(String word, char p, char q) {
        StringBuilder seen = new StringBuilder();
        for (char c : word.toCharArray()) {
            if (c == p || c == q) {
                seen.append(c);
            }
        }
        return seen.toString();
    }

    int apart(String a, String b) {
        for (int number = 0; number < 48; number++) {
            int p = number / 8;
            int q = number % 8;
            if (p <= q && q < k && !free[p][q]) {
                char one = (char) ('a' + p);
                char other = (char) ('a' + q);
                if (!look(a, one, other).equals(look(b, one, other))) {
                    return number;
                }
            }
        }
        return SwapSteps.NONE;
    }

    int fronts(String word) {
        int bits = 0;
        for (String row : rows(word)) {
            if (!row.isEmpty()) {
                bits |= 1 << row.charAt(0) - 'a';
            }
        }
        return bits;
    }

    /** What is left of b when a is taken off its front; null if a does not begin b. */
    String left(String a, String b) {
        for (String row : rows(b)) {
            for (String front : rows(a)) {
                if (row.startsWith(front)) {
                    return least(row.substring(front.length()));
                }
            }
        }
        return null;
    }

    List<Integer> layers(String word) {
        List<Integer> layers = new ArrayList<>();
        String rest = word;
        while (!rest.isEmpty()) {
            int bits = fronts(rest);
            layers.add(bits);
            for (int p = 0; p < k; p++) {
                if ((bits >> p & 1) == 1) {
                    rest = left("" + (char) ('a' + p), rest);
                }
            }
        }
        return layers;
    }

    boolean ahead(String word, int i, int j) {
        if (i >= j) {
            return false;
        }
        if (!areFree(word.charAt(i), word.charAt(j))) {
            return true;
        }
        for (int m = i + 1; m < j; m++) {
            if (ahead(word, i, m) && ahead(word, m, j)) {
                return true;
            }
        }
        return false;
    }

    Set<String> beginnings(String word) {
        Set<String> found = new TreeSet<>();
        for (String row : rows(word)) {
            for (int n = 0; n <= row.length(); n++) {
                found.add(least(row.substring(0, n)));
            }
        }
        return found;
    }

    int wide(String word) {
        int most = 0;
        for (String beginning : beginnings(word)) {
            most = Math.max(most, Integer.bitCount(fronts(left(beginning, word))));
        }
        return most;
    }

    String shared(String a, String b) {
        String longest = "";
        Set<String> ofB = beginnings(b);
        for (String beginning : beginnings(a)) {
            if (ofB.contains(beginning) && beginning.length() > longest.length()) {
                longest = beginning;
            }
        }
        return longest;
    }

    /** The shortest that both begin: all that a begins are tried, with as many letters more as b has. */
    String both(String a, String b) {
        Set<String> tried = new TreeSet<>();
        tried.add(least(a));
        for (int more = 0; more <= b.length(); more++) {
            Set<String> longer = new TreeSet<>();
            for (String heap : tried) {
                if (left(b, heap) != null) {
                    return heap;
                }
                for (int p = 0; p < k; p++) {
                    longer.add(least(heap + (char) ('a' + p)));
                }
            }
            tried = longer;
        }
        return null;
    }

    List<Integer> parts(String word) {
        TreeMap<Integer, Integer> parts = new TreeMap<>();
        for (int p = 0; p < k; p++) {
            if (word.indexOf('a' + p) >= 0) {
                int bits = 1 << p;
                for (int round = 0; round < 6; round++) {
                    for (char c : word.toCharArray()) {
                        for (char d : word.toCharArray()) {
                            if ((bits >> c - 'a' & 1) == 1 && !areFree(c, d)) {
                                bits |= 1 << d - 'a';
                            }
                        }
                    }
                }
                parts.put(Integer.numberOfTrailingZeros(bits), bits);
            }
        }
        return new ArrayList<>(parts.values());
    }

    int root(String word) {
        for (int n = word.length(); n > 0; n--) {
            if (word.length() % n == 0) {
                for (String beginning : beginnings(word)) {
                    if (beginning.length() == word.length() / n && same(word, beginning.repeat(n))) {
                        return n;
                    }
                }
            }
        }
        return 0;
    }

    Set<String> circle(String word) {
        Set<String> found = new HashSet<>();
        ArrayDeque<String> open = new ArrayDeque<>();
        found.add(least(word));
        open.add(word);
        while (!open.isEmpty()) {
            for (String row : rows(open.remove())) {
                if (!row.isEmpty()) {
                    String turned = least(row.substring(1) + row.charAt(0));
                    if (found.add(turned)) {
                        open.add(turned);
                    }
                }
            }
        }
        return found;
    }

    /** The least rows of all heaps of a length, in order. */
    List<String> all(int n) {
        List<String> words = new ArrayList<>();
        words.add("");
        for (int i = 0; i < n; i++) {
            List<String> longer = new ArrayList<>();
            for (String word : words) {
                for (int p = 0; p < k; p++) {
                    longer.add(word + (char) ('a' + p));
                }
            }
            words = longer;
        }
        TreeSet<String> least = new TreeSet<>();
        for (String word : words) {
            least.add(least(word));
        }
        return new ArrayList<>(least);
    }

    int together(int n) {
        int sets = 0;
        for (int set = 0; set < 1 << k; set++) {
            boolean all = Integer.bitCount(set) == n;
            for (int p = 0; p < k; p++) {
                for (int q = p + 1; q < k; q++) {
                    all &= (set >> p & 1) == 0 || (set >> q & 1) == 0 || free[p][q];
                }
            }
            sets += all ? 1 : 0;
        }
        return sets;
    }

    /** The place of a text's fault, or NONE, when there are so many letters. */
    static int fault(String text, int letters) {
        List<String> tokens = new ArrayList<>();
        List<Integer> places = new ArrayList<>();
        Matcher matcher = Pattern.compile("[a-z]+|[0-9]+|[^ ]", Pattern.DOTALL).matcher(text);
        while (matcher.find()) {
            tokens.add(matcher.group());
            places.add(matcher.start());
        }
        tokens.add("");
        places.add(text.length());
        int known = letters;
        int at = 0;
        for (int line = 0; line < 16; line++) {
            String last = "[a-" + (char) ('a' + known - 1) + "]";
            String[] shape;
            switch (tokens.get(at)) {
                case "free":
                case "bound":
                    shape = new String[] {"free|bound", "(?!(.)\\1)" + last + "{2}"};
                    break;
                case "letters":
                    shape = new String[] {"letters", "[1-6]"};
                    break;
                case "heap":
                    shape = new String[] {"heap", "[0-3]", "is", "none|" + last + "{1,24}"};
                    break;
                default:
                    return places.get(at);
            }
            for (String part : shape) {
                if (!tokens.get(at).matches(part)) {
                    return places.get(at);
                }
                at++;
            }
            if (shape[0].equals("letters")) {
                known = Integer.parseInt(tokens.get(at - 1));
            }
            if (tokens.get(at).isEmpty()) {
                return SwapSteps.NONE;
            }
            if (!tokens.get(at).equals(";") || line == 15) {
                return places.get(at);
            }
            at++;
        }
        return SwapSteps.NONE;
    }
}
