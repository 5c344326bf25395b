import java.math.BigInteger;
import java.util.ArrayList;
import java.util.Arrays;
import java.util.List;
import java.util.Map;
import java.util.TreeMap;

/**
 * Compares the class with a second, slower model that is built otherwise: components of graphs
 * for strands, all words tried for spellings, whole numbers without bounds for sums, minors for
 * ranks, products of the algebra instead of states for crossings.
 */
public final class ModelTest {
    private static final int[] STRANDS = {Integer.MIN_VALUE, -1, 0, 1, 2, 3, 4, 5, Integer.MAX_VALUE};
    private static final BigInteger MOST = BigInteger.valueOf(1000000000000L);
    private static int wrong = 0;

    private static void due(String call, long got, long want) {
        if (got != want) {
            wrong++;
            if (wrong <= 50) {
                System.out.println(call + " answered " + got + ", due is " + want);
            }
        }
    }

    /** An object is only promised for 512 calls: calls that change nothing get a new one in time. */
    private static final class Fresh {
        private StrandBoxes now = new StrandBoxes();
        private int calls = 0;

        StrandBoxes get() {
            calls++;
            if (calls > 500) {
                now = new StrandBoxes();
                calls = 1;
            }
            return now;
        }
    }

    private static final Fresh FRESH = new Fresh();
    private static final Model[] MODELS = {null, new Model(1), new Model(2), new Model(3), new Model(4)};

    public static void main(String[] args) {
        checkMany();
        checkBoxes();
        checkStacks();
        checkPairs();
        checkLetters();
        checkHalves();
        checkForms();
        checkSumWalks();
        checkRowWalks();
        System.out.println(wrong == 0 ? "the class and the model agree" : wrong + " answers differ");
        if (wrong != 0) {
            System.exit(1);
        }
    }

    // ---- the model of boxes

    private static int[] components(int nodes, List<int[]> edges) {
        int[] name = new int[nodes];
        for (int i = 0; i < nodes; i++) {
            name[i] = i;
        }
        for (int round = 0; round < nodes; round++) {
            for (int[] e : edges) {
                int least = Math.min(name[e[0]], name[e[1]]);
                name[e[0]] = least;
                name[e[1]] = least;
            }
        }
        return name;
    }

    private static final class Model {
        final int n;
        final List<int[]> boxes = new ArrayList<>();
        final List<int[]> halves = new ArrayList<>();
        final int[] letters;
        final int[][] words;

        Model(int n) {
            this.n = n;
            int[] empty = new int[2 * n];
            Arrays.fill(empty, -1);
            pairFromTheEnd(empty);
            boxes.sort(Arrays::compare);
            int[] bare = new int[n];
            Arrays.fill(bare, n);
            collectHalves(bare, 0);
            halves.sort(Arrays::compare);
            letters = new int[2 * (n - 1)];
            for (int i = 1; i < n; i++) {
                letters[i - 1] = i;
                letters[n - 2 + i] = 10 + i;
            }
            words = new int[boxes.size()][];
            tryWords();
        }

        private void pairFromTheEnd(int[] row) {
            int p = 2 * n - 1;
            while (p >= 0 && row[p] >= 0) {
                p--;
            }
            if (p < 0) {
                boxes.add(row.clone());
                return;
            }
            for (int q = 0; q < p; q++) {
                if (row[q] < 0) {
                    row[p] = q;
                    row[q] = p;
                    pairFromTheEnd(row);
                    row[p] = -1;
                    row[q] = -1;
                }
            }
        }

        /** Pairs are chosen in all ways; what the document forbids is looked for afterwards. */
        private void collectHalves(int[] row, int from) {
            if (from == n) {
                if (isHalf(row)) {
                    halves.add(row.clone());
                }
                return;
            }
            collectHalves(row, from + 1);
            for (int q = from + 1; q < n && row[from] == n; q++) {
                if (row[q] == n) {
                    row[from] = q;
                    row[q] = from;
                    collectHalves(row, from + 1);
                    row[from] = n;
                    row[q] = n;
                }
            }
        }

        private boolean isHalf(int[] row) {
            for (int a = 0; a < n; a++) {
                for (int b = a + 1; b < n; b++) {
                    for (int c = b + 1; c < n; c++) {
                        if (row[a] == c && row[b] == n) {
                            return false;
                        }
                        for (int d = c + 1; d < n; d++) {
                            if (row[a] == c && row[b] == d) {
                                return false;
                            }
                        }
                    }
                }
            }
            return true;
        }

        int number(int[] row) {
            for (int b = 0; b < boxes.size(); b++) {
                if (Arrays.equals(boxes.get(b), row)) {
                    return b;
                }
            }
            throw new IllegalStateException("no box " + Arrays.toString(row));
        }

        /** Neighbours in the circle are taken out as long as there are any. */
        boolean plane(int b) {
            List<Integer> circle = new ArrayList<>();
            for (int p = 0; p < n; p++) {
                circle.add(p);
            }
            for (int p = 2 * n - 1; p >= n; p--) {
                circle.add(p);
            }
            int[] row = boxes.get(b);
            for (int i = 0; i + 1 < circle.size(); i++) {
                if (row[circle.get(i)] == circle.get(i + 1)) {
                    circle.remove(i + 1);
                    circle.remove(i);
                    i = -1;
                }
            }
            return circle.isEmpty();
        }

        int planeCount() {
            int count = 0;
            for (int b = 0; b < boxes.size(); b++) {
                count += plane(b) ? 1 : 0;
            }
            return count;
        }

        int through(int b) {
            int count = 0;
            for (int p = n; p < 2 * n; p++) {
                count += boxes.get(b)[p] < n ? 1 : 0;
            }
            return count;
        }

        int upsideDown(int b) {
            int[] row = new int[2 * n];
            for (int p = 0; p < 2 * n; p++) {
                row[(p + n) % (2 * n)] = (boxes.get(b)[p] + n) % (2 * n);
            }
            return number(row);
        }

        int closedRings(int b) {
            List<int[]> edges = new ArrayList<>();
            for (int p = 0; p < 2 * n; p++) {
                edges.add(new int[] {p, boxes.get(b)[p]});
                edges.add(new int[] {p, (p + n) % (2 * n)});
            }
            return (int) Arrays.stream(components(2 * n, edges)).distinct().count();
        }

        /** Nodes: 0 to n - 1 above, n to 2 n - 1 between, 2 n to 3 n - 1 beneath. */
        int stack(int x, int y) {
            List<int[]> edges = new ArrayList<>();
            for (int p = 0; p < 2 * n; p++) {
                edges.add(new int[] {p, boxes.get(x)[p]});
                edges.add(new int[] {p + n, boxes.get(y)[p] + n});
            }
            int[] name = components(3 * n, edges);
            int[] row = new int[2 * n];
            for (int p = 0; p < 2 * n; p++) {
                for (int q = 0; q < 2 * n; q++) {
                    int a = p < n ? p : p + n;
                    int b = q < n ? q : q + n;
                    if (p != q && name[a] == name[b]) {
                        row[p] = q;
                    }
                }
            }
            return number(row) + 1000 * innerComponents(name);
        }

        private int innerComponents(int[] name) {
            List<Integer> inner = new ArrayList<>();
            for (int m = n; m < 2 * n; m++) {
                boolean outer = false;
                for (int p = 0; p < n; p++) {
                    outer |= name[p] == name[m] || name[p + 2 * n] == name[m];
                }
                if (!outer && !inner.contains(name[m])) {
                    inner.add(name[m]);
                }
            }
            return inner.size();
        }

        int plain(int letter) {
            int[] row = new int[2 * n];
            for (int p = 0; p < 2 * n; p++) {
                row[p] = (p + n) % (2 * n);
            }
            int i = letter % 10;
            if (letter > 10) {
                row[i - 1] = n + i;
                row[n + i] = i - 1;
                row[i] = n + i - 1;
                row[n + i - 1] = i;
            } else if (letter > 0) {
                row[i - 1] = i;
                row[i] = i - 1;
                row[n + i - 1] = n + i;
                row[n + i] = n + i - 1;
            }
            return number(row);
        }

        boolean isLetter(int letter) {
            return letter == 0 || Arrays.stream(letters).anyMatch(l -> l == letter);
        }

        /** All words of one length after the other, in order; the first that makes a box stays. */
        private void tryWords() {
            int[][] table = new int[boxes.size()][letters.length];
            for (int b = 0; b < boxes.size(); b++) {
                for (int k = 0; k < letters.length; k++) {
                    table[b][k] = stack(b, plain(letters[k]));
                }
            }
            for (int length = 0; Arrays.stream(words).anyMatch(w -> w == null); length++) {
                tryWordsOf(length, new int[length], 0, plain(0), table);
            }
        }

        private void tryWordsOf(int length, int[] word, int i, int made, int[][] table) {
            if (made >= 1000) {
                return;
            }
            if (i == length) {
                if (words[made] == null) {
                    words[made] = word.clone();
                }
                return;
            }
            for (int k = 0; k < letters.length; k++) {
                word[i] = letters[k];
                tryWordsOf(length, word, i + 1, table[made][k], table);
            }
        }

        List<int[]> halvesLeaving(int t) {
            List<int[]> found = new ArrayList<>();
            for (int[] h : halves) {
                if (Arrays.stream(h).filter(p -> p == n).count() == t) {
                    found.add(h);
                }
            }
            return found;
        }

        /** The power, -4 if the form is 0. */
        int form(int[] x, int[] y) {
            List<int[]> edges = new ArrayList<>();
            for (int p = 0; p < n; p++) {
                if (x[p] < n) {
                    edges.add(new int[] {p, x[p]});
                }
                if (y[p] < n) {
                    edges.add(new int[] {p, y[p]});
                }
            }
            int[] name = components(n, edges);
            int[] leftOfX = new int[n];
            int[] leftOfY = new int[n];
            for (int p = 0; p < n; p++) {
                leftOfX[name[p]] += x[p] == n ? 1 : 0;
                leftOfY[name[p]] += y[p] == n ? 1 : 0;
            }
            int rings = 0;
            for (int c = 0; c < n; c++) {
                if (leftOfX[c] != leftOfY[c]) {
                    return -4;
                }
                rings += name[c] == c && leftOfX[c] == 0 ? 1 : 0;
            }
            return rings;
        }

        /** The size of the largest minor that is no 0 modulo p. */
        int rank(int t, int v, int p) {
            List<int[]> all = halvesLeaving(t);
            int size = all.size();
            long[][] table = new long[size][size];
            for (int i = 0; i < size; i++) {
                for (int j = 0; j < size; j++) {
                    int form = form(all.get(i), all.get(j));
                    table[i][j] = form == -4 ? 0 : BigInteger.valueOf(v).pow(form).longValue();
                }
            }
            int best = 0;
            for (int rows = 1; rows < 1 << size; rows++) {
                for (int columns = 1; columns < 1 << size; columns++) {
                    int k = Integer.bitCount(rows);
                    if (k == Integer.bitCount(columns) && k > best
                            && minor(table, rows, columns).mod(BigInteger.valueOf(p)).signum() != 0) {
                        best = k;
                    }
                }
            }
            return best;
        }

        private static BigInteger minor(long[][] table, int rows, int columns) {
            if (rows == 0) {
                return BigInteger.ONE;
            }
            int row = Integer.numberOfTrailingZeros(rows);
            BigInteger total = BigInteger.ZERO;
            int sign = 1;
            for (int column = 0; column < table.length; column++) {
                if ((columns >> column & 1) == 1) {
                    BigInteger rest = minor(table, rows & (rows - 1), columns & ~(1 << column));
                    total = total.add(rest.multiply(BigInteger.valueOf(sign * table[row][column])));
                    sign = -sign;
                }
            }
            return total;
        }
    }

    // ---- boxes

    private static Model modelOf(int n) {
        return n >= 1 && n <= 4 ? MODELS[n] : null;
    }

    private static void checkMany() {
        for (int n : STRANDS) {
            Model m = modelOf(n);
            for (int plane = -2; plane <= 3; plane++) {
                int want = m == null || plane < 0 || plane > 1 ? -1
                        : plane == 0 ? m.boxes.size() : m.planeCount();
                due("many(" + n + ", " + plane + ")", FRESH.get().many(n, plane), want);
            }
        }
    }

    private static int[] boxNumbers(Model m) {
        int count = m == null ? 3 : m.boxes.size();
        int[] all = new int[count + 4];
        for (int i = 0; i < count + 2; i++) {
            all[i] = i - 1;
        }
        all[count + 2] = Integer.MIN_VALUE;
        all[count + 3] = Integer.MAX_VALUE;
        return all;
    }

    private static void checkBoxes() {
        for (int n : STRANDS) {
            Model m = modelOf(n);
            for (int b : boxNumbers(m)) {
                boolean bad = m == null || b < 0 || b >= m.boxes.size();
                for (int p = -1; p <= 9; p++) {
                    due("partner(" + n + ", " + b + ", " + p + ")", FRESH.get().partner(n, b, p),
                            bad || p < 0 || p >= 2 * n ? -1 : m.boxes.get(b)[p]);
                }
                for (int what = -1; what <= 5; what++) {
                    due("about(" + n + ", " + b + ", " + what + ")", FRESH.get().about(n, b, what),
                            bad ? -1 : aboutModel(m, b, what));
                }
                for (int i = -1; i <= 8; i++) {
                    int want = bad || i < 0 ? -1 : i < m.words[b].length ? m.words[b][i] : -4;
                    due("word(" + n + ", " + b + ", " + i + ")", FRESH.get().word(n, b, i), want);
                }
                due("word(" + n + ", " + b + ", MAX)", FRESH.get().word(n, b, Integer.MAX_VALUE),
                        bad ? -1 : -4);
                due("word(" + n + ", " + b + ", MIN)", FRESH.get().word(n, b, Integer.MIN_VALUE), -1);
            }
        }
    }

    private static int aboutModel(Model m, int b, int what) {
        switch (what) {
            case 0: return m.plane(b) ? 1 : 0;
            case 1: return m.through(b);
            case 2: return m.upsideDown(b);
            case 3: return m.closedRings(b);
            case 4: return m.words[b].length;
            default: return -1;
        }
    }

    private static void checkStacks() {
        for (int n : STRANDS) {
            Model m = modelOf(n);
            for (int x : boxNumbers(m)) {
                for (int y : boxNumbers(m)) {
                    boolean bad = m == null || x < 0 || y < 0 || x >= m.boxes.size() || y >= m.boxes.size();
                    due("stack(" + n + ", " + x + ", " + y + ")", FRESH.get().stack(n, x, y),
                            bad ? -1 : m.stack(x, y));
                }
            }
        }
    }

    /** The pairs of a box, the k-th of them turned if bit k is set, from the first or last on. */
    private static long pairsOf(int[] row, int turned, boolean fromLast) {
        long pairs = 0;
        int k = 0;
        for (int i = 0; i < row.length; i++) {
            int p = fromLast ? row.length - 1 - i : i;
            if (fromLast ? row[p] < p : row[p] > p) {
                boolean turn = (turned >> k & 1) == 1;
                pairs |= (long) (turn ? row[p] : p) << (8 * k);
                pairs |= (long) (turn ? p : row[p]) << (8 * k + 4);
                k++;
            }
        }
        return pairs;
    }

    private static void checkPairs() {
        for (int n = 1; n <= 4; n++) {
            Model m = MODELS[n];
            for (int b = 0; b < m.boxes.size(); b++) {
                for (int turned = 0; turned < 1 << n; turned++) {
                    dueBox(n, pairsOf(m.boxes.get(b), turned, false), b);
                    dueBox(n, pairsOf(m.boxes.get(b), turned, true), b);
                }
                long pairs = pairsOf(m.boxes.get(b), 0, false);
                for (int bit = 8 * n; bit < 64; bit++) {
                    dueBox(n, pairs | 1L << bit, -1);
                }
                for (int bit = 0; bit < 8 * n; bit++) {
                    dueBox(n, pairs ^ 1L << bit, -1);
                }
            }
            dueBox(n, 0, -1);
            dueBox(n, Long.MIN_VALUE, -1);
            dueBox(n, Long.MAX_VALUE, -1);
        }
        for (int bad : new int[] {Integer.MIN_VALUE, -1, 0, 5, 32, Integer.MAX_VALUE}) {
            dueBox(bad, 0x10, -1);
            dueBox(bad, 0, -1);
            dueBox(bad, 0x9876543210L, -1);
        }
    }

    private static void dueBox(int n, long pairs, int want) {
        due("box(" + n + ", 0x" + Long.toHexString(pairs) + ")", FRESH.get().box(n, pairs), want);
    }

    private static void checkLetters() {
        for (int n : STRANDS) {
            Model m = modelOf(n);
            for (int letter = -20; letter <= 40; letter++) {
                due("plain(" + n + ", " + letter + ")", FRESH.get().plain(n, letter),
                        m == null || !m.isLetter(letter) ? -1 : m.plain(letter));
            }
            due("plain(" + n + ", MIN)", FRESH.get().plain(n, Integer.MIN_VALUE), -1);
            due("plain(" + n + ", MAX)", FRESH.get().plain(n, Integer.MAX_VALUE), -1);
        }
    }

    // ---- halves

    private static void checkHalves() {
        for (int n : STRANDS) {
            Model m = modelOf(n);
            for (int t = -1; t <= 5; t++) {
                boolean bad = m == null || t < 0 || t > n;
                List<int[]> all = bad ? List.of() : m.halvesLeaving(t);
                due("halves(" + n + ", " + t + ")", FRESH.get().halves(n, t), bad ? -1 : all.size());
                for (int i = -1; i <= 7; i++) {
                    for (int p = -1; p <= 5; p++) {
                        boolean none = i < 0 || i >= all.size();
                        due("half(" + n + ", " + t + ", " + i + ", " + p + ")", FRESH.get().half(n, t, i, p),
                                bad || p < 0 || p >= n ? -1 : none ? -4 : all.get(i)[p]);
                    }
                    for (int j = -1; j <= 7; j++) {
                        boolean none = i < 0 || i >= all.size() || j < 0 || j >= all.size();
                        due("form(" + n + ", " + t + ", " + i + ", " + j + ")", FRESH.get().form(n, t, i, j),
                                bad || none ? -1 : m.form(all.get(i), all.get(j)));
                    }
                }
            }
        }
        due("form(4, 2, MAX, 0)", FRESH.get().form(4, 2, Integer.MAX_VALUE, 0), -1);
        due("form(4, 2, 0, MIN)", FRESH.get().form(4, 2, 0, Integer.MIN_VALUE), -1);
        due("half(4, MAX, 0, 0)", FRESH.get().half(4, Integer.MAX_VALUE, 0, 0), -1);
        due("half(4, 2, MAX, 0)", FRESH.get().half(4, 2, Integer.MAX_VALUE, 0), -4);
    }

    private static boolean prime(int p) {
        return p >= 2 && p <= 997 && BigInteger.valueOf(p).isProbablePrime(60);
    }

    private static void checkForms() {
        int[] values = {Integer.MIN_VALUE, -1001, -1000, -999, -500, -7, -3, -2, -1, 0, 1, 2, 3, 4, 5, 6, 17,
            996, 997, 998, 999, 1000, 1001, Integer.MAX_VALUE};
        int[] numbers = {Integer.MIN_VALUE, -7, -2, -1, 0, 1, 2, 3, 4, 5, 7, 9, 11, 15, 25, 31, 49, 101, 121, 499,
            841, 899, 961, 983, 991, 995, 997, 999, 1009, Integer.MAX_VALUE};
        for (int n : STRANDS) {
            Model m = modelOf(n);
            for (int t = -1; t <= 5; t++) {
                for (int v : values) {
                    for (int p : numbers) {
                        boolean bad = m == null || t < 0 || t > n || v < -1000 || v > 1000 || !prime(p);
                        due("free(" + n + ", " + t + ", " + v + ", " + p + ")", FRESH.get().free(n, t, v, p),
                                bad ? -1 : m.rank(t, v, p));
                    }
                }
            }
        }
        for (int p = -3; p <= 1010; p++) {
            due("free(1, 1, 0, " + p + ")", FRESH.get().free(1, 1, 0, p), prime(p) ? 1 : -1);
        }
        for (int p : new int[] {2, 3, 5, 7, 11, 13}) {
            for (int v = -30; v <= 30; v++) {
                due("free(4, 2, " + v + ", " + p + ")", FRESH.get().free(4, 2, v, p), MODELS[4].rank(2, v, p));
                due("free(4, 0, " + v + ", " + p + ")", FRESH.get().free(4, 0, v, p), MODELS[4].rank(0, v, p));
                due("free(3, 1, " + v + ", " + p + ")", FRESH.get().free(3, 1, v, p), MODELS[3].rank(1, v, p));
            }
        }
    }

    // ---- sums

    private static final class SumModel {
        int n = 2;
        TreeMap<Integer, BigInteger> terms = new TreeMap<>();

        SumModel copy() {
            SumModel other = new SumModel();
            other.n = n;
            other.terms.putAll(terms);
            return other;
        }

        /** False: HIGH. */
        boolean join(int b, int power, BigInteger f) {
            if (power > 20 || f.abs().compareTo(MOST) > 0) {
                return false;
            }
            int key = b * 100 + power;
            BigInteger all = terms.getOrDefault(key, BigInteger.ZERO).add(f);
            if (all.abs().compareTo(MOST) > 0) {
                return false;
            }
            if (all.signum() == 0) {
                terms.remove(key);
            } else {
                terms.put(key, all);
            }
            return terms.size() <= 40;
        }

        boolean joinAll(SumModel other, int sign) {
            for (Map.Entry<Integer, BigInteger> e : other.terms.entrySet()) {
                BigInteger f = e.getValue().multiply(BigInteger.valueOf(sign));
                if (!join(e.getKey() / 100, e.getKey() % 100, f)) {
                    return false;
                }
            }
            return true;
        }

        boolean joinProducts(SumModel t, SumModel u) {
            for (Map.Entry<Integer, BigInteger> e : t.terms.entrySet()) {
                for (Map.Entry<Integer, BigInteger> g : u.terms.entrySet()) {
                    int made = MODELS[n].stack(e.getKey() / 100, g.getKey() / 100);
                    int power = e.getKey() % 100 + g.getKey() % 100 + made / 1000;
                    if (!join(made % 1000, power, e.getValue().multiply(g.getValue()))) {
                        return false;
                    }
                }
            }
            return true;
        }

        long closed(int power) {
            BigInteger all = BigInteger.ZERO;
            for (Map.Entry<Integer, BigInteger> e : terms.entrySet()) {
                if (e.getKey() % 100 + MODELS[n].closedRings(e.getKey() / 100) == power) {
                    all = all.add(e.getValue());
                }
            }
            return all.longValueExact();
        }

        long term(int i, int what) {
            if (i >= terms.size()) {
                return -1000000000000004L;
            }
            int key = new ArrayList<>(terms.keySet()).get(i);
            return what == 0 ? key / 100 : what == 1 ? key % 100 : terms.get(key).longValueExact();
        }
    }

    private static final class SumsModel {
        final SumModel[] sums = new SumModel[8];

        SumsModel() {
            for (int s = 0; s < 8; s++) {
                sums[s] = new SumModel();
            }
        }

        private static boolean isSum(long s) {
            return s >= 0 && s <= 7;
        }

        long call(long[] c) {
            int s = (int) c[1];
            if (!isSum(s)) {
                return -1;
            }
            return c[0] == 0 ? clear(s, (int) c[2]) : c[0] == 1 ? add(s, c)
                    : work(s, (int) c[2], (int) c[3], (int) c[4]);
        }

        private long clear(int s, int n) {
            if (n < 1 || n > 4) {
                return -1;
            }
            int had = sums[s].terms.size();
            sums[s] = new SumModel();
            sums[s].n = n;
            return had;
        }

        private long add(int s, long[] c) {
            boolean bad = c[2] < 0 || c[2] >= MODELS[sums[s].n].boxes.size() || c[3] < 0 || c[3] > 20
                    || c[4] < -1000000 || c[4] > 1000000;
            if (bad) {
                return -1;
            }
            SumModel next = sums[s].copy();
            if (!next.join((int) c[2], (int) c[3], BigInteger.valueOf(c[4]))) {
                return -5;
            }
            sums[s] = next;
            return next.terms.size();
        }

        private long work(int s, int how, int t, int u) {
            if (how < 0 || how > 2 || !isSum(t) || !isSum(u)) {
                return -1;
            }
            if (sums[t].n != sums[u].n) {
                return -2;
            }
            SumModel next = new SumModel();
            next.n = sums[t].n;
            boolean done = how == 2 ? next.joinProducts(sums[t], sums[u])
                    : next.joinAll(sums[t], 1) && next.joinAll(sums[u], how == 0 ? 1 : -1);
            if (!done) {
                return -5;
            }
            sums[s] = next;
            return next.terms.size();
        }
    }

    /** Numbers that come again in each run, without a random source. */
    private static final class Numbers {
        private long state;

        Numbers(long seed) {
            state = seed * 7919 + 17;
        }

        int below(int bound) {
            state = state * 6364136223846793005L + 1442695040888963407L;
            return (int) ((state >>> 33) % bound);
        }
    }

    private static long play(StrandBoxes x, long[] c) {
        return c[0] == 0 ? x.clear((int) c[1], (int) c[2])
                : c[0] == 1 ? x.add((int) c[1], (int) c[2], (int) c[3], c[4])
                : x.work((int) c[1], (int) c[2], (int) c[3], (int) c[4]);
    }

    private static long[] nextCall(Numbers r, SumsModel m, int[] kinds) {
        int s = r.below(30) == 0 ? (r.below(2) == 0 ? -1 : 8) : r.below(7);
        int kind = r.below(kinds[0]);
        if (kind == 0) {
            return new long[] {0, s, r.below(20) == 0 ? r.below(2) * 5 : kinds[1]};
        }
        if (kind < kinds[2]) {
            int n = s >= 0 && s < 8 ? m.sums[s].n : 2;
            int boxes = MODELS[n].boxes.size();
            int b = r.below(25) == 0 ? (r.below(2) == 0 ? -1 : boxes) : r.below(boxes);
            int power = r.below(25) == 0 ? (r.below(2) == 0 ? -1 : 21) : r.below(kinds[3]);
            long[] factors = {1, -1, 2, -3, 1000000, -1000000, 999999, 1000001, -1000001, 0, 5, -7,
                Long.MIN_VALUE, 1, 1, -1};
            return new long[] {1, s, b, power, factors[r.below(factors.length)]};
        }
        int how = r.below(25) == 0 ? (r.below(2) == 0 ? -1 : 3) : r.below(3);
        int t = r.below(30) == 0 ? (r.below(2) == 0 ? -1 : 8) : r.below(8);
        int u = r.below(30) == 0 ? (r.below(2) == 0 ? -1 : 8) : r.below(8);
        return new long[] {2, s, how, t, u};
    }

    private static void checkSumWalks() {
        int[] seen = new int[6];
        for (int seed = 0; seed < 240; seed++) {
            Numbers r = new Numbers(seed);
            int n = seed % 4 + 1;
            int[] kinds = {seed % 3 == 0 ? 12 : 40, n, seed % 3 == 0 ? 6 : 34, seed % 5 == 0 ? 21 : 4};
            SumsModel m = new SumsModel();
            List<long[]> calls = new ArrayList<>();
            for (int s = 0; s < 7; s++) {
                calls.add(new long[] {0, s, n});
                m.call(calls.get(s));
            }
            StrandBoxes x = new StrandBoxes();
            for (int s = 0; s < 7; s++) {
                play(x, calls.get(s));
            }
            for (int i = 0; i < 200; i++) {
                long[] c = nextCall(r, m, kinds);
                calls.add(c);
                long want = m.call(c);
                seen[want < 0 ? (int) -want : 0]++;
                due("walk " + seed + ", call " + i + " " + Arrays.toString(c), play(x, c), want);
            }
            for (int s = 0; s < 8; s++) {
                checkSum("walk " + seed, calls, m, s);
            }
        }
        due("the walks meet BAD, NO and HIGH", seen[1] > 9 && seen[2] > 9 && seen[5] > 9 ? 1 : 0, 1);
    }

    /** The same calls on a new object, so that all questions stay within its 512 calls. */
    private static void checkSum(String walk, List<long[]> calls, SumsModel m, int s) {
        StrandBoxes x = new StrandBoxes();
        for (long[] c : calls) {
            play(x, c);
        }
        SumModel want = m.sums[s];
        String told = walk + ", sum " + s + ": ";
        due(told + "sum 0", x.sum(s, 0), want.n);
        due(told + "sum 1", x.sum(s, 1), want.terms.size());
        for (int i = 0; i <= want.terms.size(); i++) {
            for (int what = 0; what < 3; what++) {
                due(told + "term " + i + " " + what, x.term(s, i, what), want.term(i, what));
            }
        }
        for (int power = 0; power <= 24; power++) {
            due(told + "closed " + power, x.closed(s, power), want.closed(power));
        }
        for (int t = 0; t < 8; t++) {
            boolean like = m.sums[t].n == want.n && m.sums[t].terms.equals(want.terms);
            due(told + "same " + t, x.same(s, t), like ? 1 : 0);
        }
    }

    // ---- crossings

    /** Powers of A by box: the row is multiplied out in the algebra, then closed. */
    private static Map<Integer, Long> rowSum(int n, List<Integer> row) {
        Map<Integer, Map<Integer, Long>> made = new TreeMap<>();
        made.put(MODELS[n].plain(0), new TreeMap<>(Map.of(0, 1L)));
        for (int letter : row) {
            Map<Integer, Map<Integer, Long>> next = new TreeMap<>();
            int sign = letter > 0 ? 1 : -1;
            for (Map.Entry<Integer, Map<Integer, Long>> e : made.entrySet()) {
                addTo(next.computeIfAbsent(e.getKey(), k -> new TreeMap<>()), shift(e.getValue(), sign));
                int stacked = MODELS[n].stack(e.getKey(), MODELS[n].plain(Math.abs(letter)));
                Map<Integer, Long> turned = shift(e.getValue(), -sign);
                for (int ring = 0; ring < stacked / 1000; ring++) {
                    turned = timesRing(turned);
                }
                addTo(next.computeIfAbsent(stacked % 1000, k -> new TreeMap<>()), turned);
            }
            made = next;
        }
        Map<Integer, Long> sum = new TreeMap<>();
        for (Map.Entry<Integer, Map<Integer, Long>> e : made.entrySet()) {
            Map<Integer, Long> closed = e.getValue();
            for (int ring = 1; ring < MODELS[n].closedRings(e.getKey()); ring++) {
                closed = timesRing(closed);
            }
            addTo(sum, closed);
        }
        return sum;
    }

    private static void addTo(Map<Integer, Long> sum, Map<Integer, Long> other) {
        for (Map.Entry<Integer, Long> e : other.entrySet()) {
            sum.merge(e.getKey(), e.getValue(), Long::sum);
        }
    }

    private static Map<Integer, Long> shift(Map<Integer, Long> sum, int by) {
        Map<Integer, Long> shifted = new TreeMap<>();
        for (Map.Entry<Integer, Long> e : sum.entrySet()) {
            shifted.put(e.getKey() + by, e.getValue());
        }
        return shifted;
    }

    private static Map<Integer, Long> timesRing(Map<Integer, Long> sum) {
        Map<Integer, Long> product = new TreeMap<>();
        for (Map.Entry<Integer, Long> e : sum.entrySet()) {
            product.merge(e.getKey() + 2, -e.getValue(), Long::sum);
            product.merge(e.getKey() - 2, -e.getValue(), Long::sum);
        }
        return product;
    }

    private static void checkPowers(String walk, StrandBoxes x, int n, List<Integer> row) {
        Map<Integer, Long> want = rowSum(n, row);
        for (int k = -42; k <= 42; k++) {
            due(walk + " " + n + " " + row + " power(" + k + ")", x.power(k),
                    Math.abs(k) > 40 ? -1000000 : want.getOrDefault(k, 0L));
        }
    }

    private static void checkRowWalks() {
        for (int seed = 0; seed < 300; seed++) {
            Numbers r = new Numbers(seed + 1000);
            StrandBoxes x = new StrandBoxes();
            int n = 2;
            List<Integer> row = new ArrayList<>();
            String walk = "row walk " + seed;
            for (int i = 0; i < 60; i++) {
                int kind = r.below(20);
                if (kind == 0 || i == 0 && seed % 4 != 0) {
                    int begun = r.below(5) + 1;
                    boolean bad = begun < 2 || begun > 4;
                    due(walk + " row(" + begun + ")", x.row(begun), bad ? -1 : 0);
                    if (!bad) {
                        n = begun;
                        row.clear();
                    }
                } else if (kind < 5) {
                    due(walk + " back", x.back(), row.isEmpty() ? -2 : row.size() - 1);
                    if (!row.isEmpty()) {
                        row.remove(row.size() - 1);
                    }
                } else if (kind < 7) {
                    int k = r.below(81) - 40;
                    due(walk + " " + row + " power(" + k + ")", x.power(k), rowSum(n, row).getOrDefault(k, 0L));
                } else {
                    int letter = r.below(2 * n + 3) - n - 1;
                    boolean bad = letter == 0 || Math.abs(letter) >= n;
                    due(walk + " cross(" + letter + ")", x.cross(letter),
                            bad ? -1 : row.size() == 8 ? -3 : row.size() + 1);
                    if (!bad && row.size() < 8) {
                        row.add(letter);
                    }
                }
            }
            checkPowers(walk, x, n, row);
        }
    }
}
