import java.util.ArrayList;
import java.util.Arrays;
import java.util.Comparator;
import java.util.List;
import java.util.Map;
import java.util.PriorityQueue;
import java.util.TreeMap;

/**
 * The document once more, said as plainly as the Java library allows and without regard to cost:
 * every reading is spelled out, nothing is kept that can be asked again. PlainRuns compares PenLines with it.
 */
final class PlainPens {
    private static final int NONE = -1000000, BAD = -1000001, STATE = -1000002, FULL = -1000003;

    private static final double MOST_SPELLED_OUT = 500;

    private final int[][] sheets = new int[8][];
    private final int[] lanes = new int[8];
    private List<int[]> line = List.of();
    private int gap = 30;
    private TreeMap<String, Integer> forms = new TreeMap<>();
    private TreeMap<String, Integer> pairs = new TreeMap<>();
    private final List<TreeMap<String, Integer>> formsAhead = new ArrayList<>();
    private final List<TreeMap<String, Integer>> pairsAhead = new ArrayList<>();
    private String word = "";
    private final List<String> theList = new ArrayList<>();
    private List<Integer> trace = new ArrayList<>();
    private int finding = 0;

    private int found(int number) {
        finding = number;
        return -1000010 - number;
    }

    private int fine(int answer) {
        finding = 0;
        return answer;
    }

    private static boolean in(int v, int from, int to) {
        return v >= from && v <= to;
    }

    int sheet(int sheet, int lane, int n) {
        if (!in(sheet, 0, 7) || !in(lane, 0, 2) || n > 80) return BAD;
        if (n < 0) return found(4);
        sheets[sheet] = new int[n];
        lanes[sheet] = lane;
        return fine(n);
    }

    int set(int sheet, int i, int v) {
        if (!in(sheet, 0, 7)) return BAD;
        if (sheets[sheet] == null) return found(1);
        if (!in(i, 0, sheets[sheet].length - 1)) return found(2);
        int away = 32 - (8 << lanes[sheet]);
        sheets[sheet][i] = (v << away) >> away;
        return fine(sheets[sheet][i]);
    }

    int copy(int a, int i, int b, int j, int n) {
        if (!in(a, 0, 7) || !in(b, 0, 7)) return BAD;
        if (sheets[a] == null || sheets[b] == null) return found(1);
        if (lanes[a] != lanes[b]) return found(5);
        if (i < 0 || j < 0 || n < 0 || (long) i + n > sheets[a].length || (long) j + n > sheets[b].length) return found(2);
        int[] taken = Arrays.copyOfRange(sheets[a], i, i + n);
        for (int k = 0; k < n; k++) sheets[b][j + k] = taken[k];
        return fine(n);
    }

    int drop(int sheet) {
        if (!in(sheet, 0, 7)) return BAD;
        if (sheets[sheet] == null) return found(1);
        int had = sheets[sheet].length;
        sheets[sheet] = null;
        return fine(had);
    }

    int line(int sheet, int i, int n) {
        if (!in(sheet, 0, 7) || !in(n, 1, 40)) return BAD;
        if (sheets[sheet] == null) return found(1);
        if (i < 0 || (long) i + 2 * n > sheets[sheet].length) return found(2);
        List<int[]> pieces = new ArrayList<>();
        for (int k = 0; k < n; k++) {
            int[] piece = {sheets[sheet][i + 2 * k], sheets[sheet][i + 2 * k + 1]};
            if (!in(piece[0], 0, 2000) || !in(piece[1], 0, 12)) return BAD;
            pieces.add(piece);
        }
        line = pieces;
        return fine(inks().size());
    }

    int gap(int v) {
        if (!in(v, 1, 100)) return BAD;
        int was = gap;
        gap = v;
        return was;
    }

    /** Each ink: its pieces as {x, shape, dots joined}. */
    private List<List<int[]>> inks() {
        List<List<int[]>> inks = new ArrayList<>();
        Integer ahead = null;
        for (int[] piece : line) {
            if (piece[1] == 12) continue;
            if (ahead == null || piece[0] > ahead + gap) inks.add(new ArrayList<>());
            inks.get(inks.size() - 1).add(new int[] {piece[0], piece[1], 0});
            ahead = piece[0];
        }
        for (int[] dot : line) {
            int[] piece = dot[1] == 12 ? pieceUnder(inks, dot[0]) : null;
            if (piece != null) piece[2]++;
        }
        return inks;
    }

    private static int[] pieceUnder(List<List<int[]>> inks, int x) {
        for (List<int[]> ink : inks) {
            int least = ink.stream().mapToInt(p -> p[0]).min().getAsInt();
            int greatest = ink.stream().mapToInt(p -> p[0]).max().getAsInt();
            if (least - 5 <= x && x <= greatest + 5) {
                return ink.stream().min(Comparator.comparingInt(p -> Math.abs(p[0] - x))).get();
            }
        }
        return null;
    }

    private boolean noInk(int ink) {
        return !in(ink, 0, inks().size() - 1);
    }

    int ink(int ink, int what) {
        if (noInk(ink) || !in(what, 0, 2)) return BAD;
        List<List<int[]>> inks = inks();
        if (what == 0) return inks.get(ink).size();
        if (what == 1) return inks.subList(0, ink).stream().mapToInt(List::size).sum();
        return inks.get(ink).stream().mapToInt(p -> p[2]).sum();
    }

    int piece(int ink, int k, int what) {
        if (noInk(ink) || !in(k, 0, inks().get(ink).size() - 1) || !in(what, 0, 2)) return BAD;
        return inks().get(ink).get(k)[what];
    }

    int loose() {
        return count(2) - inks().stream().flatMap(List::stream).mapToInt(p -> p[2]).sum();
    }

    private static String formOf(int letter, List<int[]> row) {
        StringBuilder text = new StringBuilder().append((char) ('a' + letter));
        for (int[] piece : row) text.append('.').append(piece[1]);
        return text.toString();
    }

    private static String formOf(int letter, int n, int s0, int s1, int s2) {
        List<int[]> row = List.of(new int[] {0, s0}, new int[] {0, s1}, new int[] {0, s2});
        return formOf(letter, row.subList(0, n));
    }

    private static boolean isForm(int letter, int n, int s0, int s1, int s2) {
        return in(letter, 0, 25) && in(n, 1, 3) && in(s0, 0, 11) && (n == 1 || in(s1, 0, 11)) && (n <= 2 || in(s2, 0, 11));
    }

    private static int more(Map<String, Integer> counts, String which, int often) {
        counts.put(which, Math.min(999, counts.getOrDefault(which, 0) + often));
        return counts.get(which);
    }

    int form(int letter, int n, int s0, int s1, int s2, int often) {
        if (!isForm(letter, n, s0, s1, s2) || !in(often, 1, 99)) return BAD;
        return more(forms, formOf(letter, n, s0, s1, s2), often);
    }

    int seen(int letter, int n, int s0, int s1, int s2) {
        if (!isForm(letter, n, s0, s1, s2)) return BAD;
        return forms.getOrDefault(formOf(letter, n, s0, s1, s2), 0);
    }

    int pair(int a, int b, int often) {
        if (!in(a, 0, 25) || !in(b, 0, 25) || !in(often, 1, 99)) return BAD;
        return more(pairs, "" + (char) ('a' + a) + (char) ('a' + b), often);
    }

    int letter(int letter) {
        if (!in(letter, 0, 25)) return BAD;
        if (word.length() == 12) return FULL;
        word += (char) ('a' + letter);
        return word.length();
    }

    int list() {
        if (word.isEmpty() || theList.contains(word)) return STATE;
        if (theList.size() == 30) return FULL;
        theList.add(word);
        word = "";
        return theList.size() - 1;
    }

    int wipe() {
        int had = word.length();
        word = "";
        return had;
    }

    /** What a letter costs on a row; null if it has no form of it. */
    private Integer cost(int letter, List<int[]> row) {
        int count = forms.getOrDefault(formOf(letter, row), 0);
        if (count == 0) return null;
        boolean dotted = letter == 8 || letter == 9;
        boolean dot = row.stream().anyMatch(p -> p[2] > 0);
        int cost = 12 / (count + 1);
        if (dotted && !dot) cost += 5;
        if (!dotted && dot) cost += 4;
        return cost;
    }

    /** How many readings an ink has at most, were there no bound on letters: too many can't be spelled out. */
    private double readings(int ink) {
        if (noInk(ink) || inks().get(ink).size() > 14) return 0;
        List<int[]> pieces = inks().get(ink);
        double[] many = new double[pieces.size() + 1];
        many[pieces.size()] = 1;
        for (int at = pieces.size() - 1; at >= 0; at--) {
            for (int row = 1; row <= 3 && at + row <= pieces.size(); row++) {
                for (int letter = 0; letter < 26; letter++) {
                    if (cost(letter, pieces.subList(at, at + row)) != null) many[at] += many[at + row];
                }
            }
        }
        return many[0];
    }

    /** All that the pieces spell, each at its least open cost, however many letters it has. */
    private TreeMap<String, Integer> spelled(List<int[]> pieces, TreeMap<Integer, TreeMap<String, Integer>> known) {
        if (known.containsKey(pieces.size())) return known.get(pieces.size());
        TreeMap<String, Integer> all = new TreeMap<>();
        for (int row = 1; row <= 3 && row <= pieces.size(); row++) {
            for (int letter = 0; letter < 26; letter++) {
                Integer cost = cost(letter, pieces.subList(0, row));
                if (cost == null) continue;
                String own = "" + (char) ('a' + letter);
                if (row == pieces.size()) all.merge(own, cost, Math::min);
                spelled(pieces.subList(row, pieces.size()), known).forEach((rest, more) -> {
                    int pair = 6 / (pairs.getOrDefault(own + rest.charAt(0), 0) + 1);
                    all.merge(own + rest, cost + pair + more, Math::min);
                });
            }
        }
        known.put(pieces.size(), all);
        return all;
    }

    private List<Map.Entry<String, Integer>> openReadings(int ink) {
        List<int[]> pieces = inks().get(ink);
        if (pieces.size() > 14) return List.of();
        List<Map.Entry<String, Integer>> best = new BestFirst(pieces).best();
        if (readings(ink) <= MOST_SPELLED_OUT) {
            List<Map.Entry<String, Integer>> all = spelled(pieces, new TreeMap<>()).entrySet().stream()
                    .filter(e -> e.getKey().length() <= 12)
                    .sorted(Map.Entry.<String, Integer>comparingByValue().thenComparing(Map.Entry.comparingByKey()))
                    .limit(5).toList();
            if (!all.equals(best)) throw new IllegalStateException(all + " spelled out, best first " + best);
        }
        return best;
    }

    /** Rows of letters from the beginning on, that which promises least first: for inks of too many readings. */
    private final class BestFirst {
        private static final int NEVER = 1000000;

        /** Either a row of letters as it is (ended), or all that it is the beginning of. */
        private record Item(int cost, String letters, boolean ended, int[] ahead) { }

        private final int n;
        private final Integer[][][] own;
        private final int[][][] rest;

        BestFirst(List<int[]> pieces) {
            n = pieces.size();
            own = new Integer[n][4][26];
            for (int at = 0; at < n; at++)
                for (int row = 1; row <= 3 && at + row <= n; row++)
                    for (int letter = 0; letter < 26; letter++) own[at][row][letter] = cost(letter, pieces.subList(at, at + row));
            rest = new int[n + 1][26][13];
            for (int at = n; at >= 0; at--)
                for (int last = 0; last < 26; last++)
                    for (int used = 12; used >= 0; used--) rest[at][last][used] = restFrom(at, last, used);
        }

        private int restFrom(int at, int last, int used) {
            if (at == n || used == 12) return at == n ? 0 : NEVER;
            int least = NEVER;
            for (int row = 1; row <= 3 && at + row <= n; row++)
                for (int letter = 0; letter < 26; letter++)
                    if (own[at][row][letter] != null)
                        least = Math.min(least, own[at][row][letter] + pairCost(last, letter) + rest[at + row][letter][used + 1]);
            return least;
        }

        private int pairCost(int a, int b) {
            return 6 / (pairs.getOrDefault("" + (char) ('a' + a) + (char) ('a' + b), 0) + 1);
        }

        List<Map.Entry<String, Integer>> best() {
            PriorityQueue<Item> items = new PriorityQueue<>(Comparator.comparingInt(Item::cost)
                    .thenComparing(Item::letters).thenComparing(i -> i.ended ? 0 : 1));
            int[] ahead = new int[n + 1];
            Arrays.fill(ahead, NEVER);
            ahead[0] = 0;
            items.add(new Item(0, "", false, ahead));
            List<Map.Entry<String, Integer>> best = new ArrayList<>();
            while (!items.isEmpty() && best.size() < 5) {
                Item item = items.remove();
                if (item.ended) best.add(Map.entry(item.letters, item.cost));
                else for (int letter = 0; letter < 26; letter++) extend(item, letter, items);
            }
            return best;
        }

        private void extend(Item item, int letter, PriorityQueue<Item> items) {
            int used = item.letters.length() + 1;
            int[] reached = new int[n + 1];
            Arrays.fill(reached, NEVER);
            int pair = used == 1 ? 0 : pairCost(item.letters.charAt(used - 2) - 'a', letter);
            for (int at = 0; at < n; at++)
                for (int row = 1; row <= 3 && at + row <= n; row++)
                    if (item.ahead[at] < NEVER && own[at][row][letter] != null)
                        reached[at + row] = Math.min(reached[at + row], item.ahead[at] + pair + own[at][row][letter]);
            String letters = item.letters + (char) ('a' + letter);
            int least = NEVER;
            for (int at = 0; at < n; at++) least = Math.min(least, reached[at] + rest[at][letter][used]);
            if (reached[n] < NEVER) items.add(new Item(reached[n], letters, true, null));
            if (least < NEVER) items.add(new Item(least, letters, false, reached));
        }
    }

    /** Every parting of the pieces that spells the word: {cost, row, row ..}. */
    private List<int[]> partings(List<int[]> pieces, String word) {
        List<int[]> all = new ArrayList<>();
        if (word.isEmpty() && pieces.isEmpty()) all.add(new int[] {0});
        if (word.isEmpty() || pieces.size() > 14) return all;
        for (int row = 1; row <= 3 && row <= pieces.size(); row++) {
            Integer cost = cost(word.charAt(0) - 'a', pieces.subList(0, row));
            if (cost == null) continue;
            for (int[] rest : partings(pieces.subList(row, pieces.size()), word.substring(1))) {
                int[] parting = new int[rest.length + 1];
                parting[0] = cost + rest[0];
                parting[1] = row;
                System.arraycopy(rest, 1, parting, 2, rest.length - 1);
                all.add(parting);
            }
        }
        return all;
    }

    /** The least cost, and of several the longer row where they part; null if there is none. */
    private int[] bestParting(int ink, String word) {
        Comparator<int[]> better = (a, b) -> {
            if (a[0] != b[0]) return a[0] - b[0];
            for (int k = 1; k < a.length; k++) if (a[k] != b[k]) return b[k] - a[k];
            return 0;
        };
        return partings(inks().get(ink), word).stream().min(better).orElse(null);
    }

    int listed(int ink, int i, int what) {
        if (noInk(ink) || !in(what, 0, 1)) return BAD;
        List<int[]> all = new ArrayList<>();
        for (int place = 0; place < theList.size(); place++) {
            int[] parting = bestParting(ink, theList.get(place));
            if (parting != null) all.add(new int[] {place, parting[0]});
        }
        all.sort(Comparator.<int[]>comparingInt(r -> r[1]).thenComparingInt(r -> r[0]));
        return in(i, 0, all.size() - 1) ? all.get(i)[what] : NONE;
    }

    int open(int ink, int i, int what) {
        if (noInk(ink) || !in(i, 0, 4) || !in(what, -2, 11)) return BAD;
        List<Map.Entry<String, Integer>> all = openReadings(ink);
        if (i >= all.size()) return NONE;
        String letters = all.get(i).getKey();
        if (what == -1) return all.get(i).getValue();
        if (what == -2) return letters.length();
        return what < letters.length() ? letters.charAt(what) - 'a' : NONE;
    }

    int find(int k) {
        if (word.isEmpty()) return STATE;
        List<Integer> with = new ArrayList<>();
        for (int ink = 0; ink < inks().size(); ink++) {
            if (openReadings(ink).stream().anyMatch(e -> e.getKey().equals(word))) with.add(ink);
        }
        return in(k, 0, with.size() - 1) ? with.get(k) : NONE;
    }

    int teach(int ink) {
        if (noInk(ink)) return BAD;
        int[] best = word.isEmpty() ? null : bestParting(ink, word);
        if (best == null) return STATE;
        if (formsAhead.size() == 50) return FULL;
        formsAhead.add(new TreeMap<>(forms));
        pairsAhead.add(new TreeMap<>(pairs));
        List<int[]> rest = inks().get(ink);
        for (int k = 0; k < word.length(); k++) {
            more(forms, formOf(word.charAt(k) - 'a', rest.subList(0, best[k + 1])), 1);
            rest = rest.subList(best[k + 1], rest.size());
        }
        for (int k = 1; k < word.length(); k++) more(pairs, word.substring(k - 1, k + 1), 1);
        return wipe();
    }

    int unteach() {
        if (formsAhead.isEmpty()) return NONE;
        forms = formsAhead.remove(formsAhead.size() - 1);
        pairs = pairsAhead.remove(pairsAhead.size() - 1);
        return formsAhead.size();
    }

    private boolean is(int ink, int kind) {
        List<Map.Entry<String, Integer>> all = openReadings(ink);
        switch (kind) {
            case 3: return is(ink, 2) && theList.contains(all.get(0).getKey());
            case 2: return is(ink, 1) && (all.size() < 2 || all.get(1).getValue() >= all.get(0).getValue() + 4);
            case 1: return is(ink, 0) && !all.isEmpty();
            default: return true;
        }
    }

    int kind(int ink) {
        if (noInk(ink)) return BAD;
        for (int kind = 3; kind > 0; kind--) if (is(ink, kind)) return kind;
        return 0;
    }

    int as(int ink, int kind) {
        if (noInk(ink) || !in(kind, 0, 3)) return BAD;
        return is(ink, kind) ? fine(inks().get(ink).size()) : found(3);
    }

    int ask(int ink, int what) {
        if (noInk(ink) || !in(what, 0, 1)) return BAD;
        trace = new ArrayList<>();
        return body(ink, (what == 0 ? new int[] {10, 11, 12, 13} : new int[] {20, 20, 21, 22})[kind(ink)]);
    }

    private int body(int ink, int number) {
        trace.add(number);
        switch (number) {
            case 10: return inks().get(ink).size();
            case 11: return body(ink, 10) + openReadings(ink).get(0).getValue();
            case 12: return 2 * body(ink, 11);
            case 13: return body(ink, 12) + body(ink, new int[] {20, 20, 21, 22}[kind(ink)]);
            case 20: return inks().get(ink).stream().mapToInt(p -> p[2]).sum();
            case 21: return body(ink, 20) + 100;
            default: return body(ink, 21) + theList.indexOf(openReadings(ink).get(0).getKey());
        }
    }

    int trace(int i) {
        return in(i, 0, Math.min(16, trace.size()) - 1) ? trace.get(i) : NONE;
    }

    int count(int what) {
        switch (what) {
            case 0: return (int) Arrays.stream(sheets).filter(s -> s != null).count();
            case 1: return inks().size();
            case 2: return (int) line.stream().filter(p -> p[1] == 12).count();
            case 3: return forms.size();
            case 4: return pairs.size();
            case 5: return theList.size();
            case 6: return word.length();
            case 7: return formsAhead.size();
            default: return BAD;
        }
    }

    int status() {
        return finding;
    }
}
