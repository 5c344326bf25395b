/**
 * Boxes of strands: pairings that are stacked, sums of them, their halves, and closed rows of
 * crossings. The words in capitals in the comments are those of the document.
 */
public final class StrandBoxes {
    public static final int BAD = -1, NO = -2, FULL = -3, NONE = -4, HIGH = -5;

    private static final long TERM_BAD = -1000000000000001L;
    private static final long TERM_NONE = -1000000000000004L;
    private static final int POWER_BAD = -1000000;

    private static final int MOST_STRANDS = 4;
    private static final int SUMS = 8;
    private static final int MOST_TERMS = 40;
    private static final int MOST_POWER = 20;
    private static final long MOST_FACTOR = 1000000000000L;
    private static final long MOST_ADDED = 1000000L;
    private static final int MOST_CLOSED_POWER = MOST_POWER + MOST_STRANDS;
    private static final int MOST_VALUE = 1000;
    private static final int MOST_PRIME = 997;
    private static final int MOST_CROSSINGS = 8;
    private static final int MOST_A = 40;

    private static final int RING = 1000;
    private static final int FIRST_S = 11;

    private final Boxes[] boxes = new Boxes[MOST_STRANDS];
    private final Halves[] halfRows = new Halves[MOST_STRANDS];
    private final Sum[] sums = new Sum[SUMS];
    private final Sum made = new Sum();
    private final Crossings crossings = new Crossings();

    public StrandBoxes() {
        for (int n = 1; n <= MOST_STRANDS; n++) {
            boxes[n - 1] = new Boxes(n);
            halfRows[n - 1] = new Halves(n);
        }
        for (int s = 0; s < SUMS; s++) {
            sums[s] = new Sum();
        }
    }

    // ---- boxes

    public int many(int n, int plane) {
        if (!isStrands(n) || plane < 0 || plane > 1) {
            return BAD;
        }
        return plane == 0 ? boxes[n - 1].count : boxes[n - 1].countPlane();
    }

    public int partner(int n, int b, int point) {
        if (!isBox(n, b) || point < 0 || point >= 2 * n) {
            return BAD;
        }
        return boxes[n - 1].partners[b][point];
    }

    public int about(int n, int b, int what) {
        if (!isBox(n, b)) {
            return BAD;
        }
        Boxes all = boxes[n - 1];
        switch (what) {
            case 0:
                return all.isPlane(b) ? 1 : 0;
            case 1:
                return all.countThrough(b);
            case 2:
                return all.upsideDown(b);
            case 3:
                return all.rings[b];
            case 4:
                return all.lengths[b];
            default:
                return BAD;
        }
    }

    public int stack(int n, int x, int y) {
        if (!isBox(n, x) || !isBox(n, y)) {
            return BAD;
        }
        return boxes[n - 1].stackOn(x, y);
    }

    public int box(int n, long pairs) {
        if (!isStrands(n)) {
            return BAD;
        }
        return boxes[n - 1].ofPairs(pairs);
    }

    public int plain(int n, int letter) {
        if (!isStrands(n)) {
            return BAD;
        }
        return boxes[n - 1].ofLetter(letter);
    }

    public int word(int n, int b, int i) {
        if (!isBox(n, b) || i < 0) {
            return BAD;
        }
        return boxes[n - 1].letterOf(b, i);
    }

    // ---- sums

    public int clear(int s, int n) {
        if (!isSum(s) || !isStrands(n)) {
            return BAD;
        }
        int had = sums[s].size;
        sums[s].begin(n);
        return had;
    }

    public int add(int s, int b, int power, long f) {
        if (!isSum(s) || !isBox(sums[s].strands, b) || power < 0 || power > MOST_POWER) {
            return BAD;
        }
        if (f < -MOST_ADDED || f > MOST_ADDED) {
            return BAD;
        }
        return sums[s].join(b, power, f) ? sums[s].size : HIGH;
    }

    public int work(int s, int how, int t, int u) {
        if (!isSum(s) || how < 0 || how > 2 || !isSum(t) || !isSum(u)) {
            return BAD;
        }
        if (sums[t].strands != sums[u].strands) {
            return NO;
        }
        if (!make(how, sums[t], sums[u])) {
            return HIGH;
        }
        sums[s].take(made);
        return made.size;
    }

    public int sum(int s, int what) {
        if (!isSum(s) || what < 0 || what > 1) {
            return BAD;
        }
        return what == 0 ? sums[s].strands : sums[s].size;
    }

    public long term(int s, int i, int what) {
        if (!isSum(s) || i < 0 || what < 0 || what > 2) {
            return TERM_BAD;
        }
        Sum told = sums[s];
        if (i >= told.size) {
            return TERM_NONE;
        }
        if (what == 2) {
            return told.factors[i];
        }
        return what == 0 ? told.numbers[i] : told.powers[i];
    }

    public int same(int s, int t) {
        if (!isSum(s) || !isSum(t)) {
            return BAD;
        }
        return sums[s].isLike(sums[t]) ? 1 : 0;
    }

    public long closed(int s, int power) {
        if (!isSum(s) || power < 0 || power > MOST_CLOSED_POWER) {
            return 0;
        }
        Sum told = sums[s];
        int[] rings = boxes[told.strands - 1].rings;
        long whole = 0;
        for (int i = 0; i < told.size; i++) {
            if (told.powers[i] + rings[told.numbers[i]] == power) {
                whole += told.factors[i];
            }
        }
        return whole;
    }

    // ---- halves

    public int halves(int n, int t) {
        if (!isThrough(n, t)) {
            return BAD;
        }
        return halfRows[n - 1].countLeaving(t);
    }

    public int half(int n, int t, int i, int point) {
        if (!isThrough(n, t) || point < 0 || point >= n) {
            return BAD;
        }
        int h = halfRows[n - 1].find(t, i);
        return h < 0 ? NONE : halfRows[n - 1].partners[h][point];
    }

    public int form(int n, int t, int i, int j) {
        if (!isThrough(n, t)) {
            return BAD;
        }
        int x = halfRows[n - 1].find(t, i);
        int y = halfRows[n - 1].find(t, j);
        if (x < 0 || y < 0) {
            return BAD;
        }
        return halfRows[n - 1].lay(x, y);
    }

    public int free(int n, int t, int v, int p) {
        if (!isThrough(n, t) || v < -MOST_VALUE || v > MOST_VALUE || !isPrime(p)) {
            return BAD;
        }
        return halfRows[n - 1].rank(t, v, p);
    }

    // ---- crossings

    public int row(int n) {
        if (n < 2 || n > MOST_STRANDS) {
            return BAD;
        }
        crossings.begin(n);
        return 0;
    }

    public int cross(int letter) {
        if (!crossings.allows(letter)) {
            return BAD;
        }
        return crossings.append(letter) ? crossings.size : FULL;
    }

    public int back() {
        return crossings.dropLast() ? crossings.size : NO;
    }

    public int power(int k) {
        if (k < -MOST_A || k > MOST_A) {
            return POWER_BAD;
        }
        return crossings.wholeAt(k, boxes[crossings.strands - 1]);
    }

    private static boolean isStrands(int n) {
        return n >= 1 && n <= MOST_STRANDS;
    }

    private static boolean isSum(int s) {
        return s >= 0 && s < SUMS;
    }

    private static boolean isThrough(int n, int t) {
        return isStrands(n) && t >= 0 && t <= n;
    }

    private boolean isBox(int n, int b) {
        return isStrands(n) && b >= 0 && b < boxes[n - 1].count;
    }

    private static boolean isPrime(int p) {
        if (p < 2 || p > MOST_PRIME) {
            return false;
        }
        for (int d = 2; d * d <= p; d++) {
            if (p % d == 0) {
                return false;
            }
        }
        return true;
    }

    /** Works in a sum of its own, so that HIGH leaves all sums as they were. */
    private boolean make(int how, Sum t, Sum u) {
        made.begin(t.strands);
        if (how == 2) {
            return made.joinProducts(t, u, boxes[t.strands - 1]);
        }
        return made.joinAll(t, 1) && made.joinAll(u, how == 0 ? 1 : -1);
    }

    /** All BOXES of one number of STRANDS, by their NUMBERS. */
    private static final class Boxes {
        /** No BOX of up to four STRANDS needs more letters: six, as the tests find by trying. */
        private static final int LONGEST = 6;
        private static final int UNKNOWN = -1;

        final int strands;
        final int points;
        final int letters;
        final int count;
        final int[][] partners;
        /** RINGS of each BOX when it is CLOSED. */
        final int[] rings;
        /** Letters of each BOX's LEAST SPELLING. */
        final int[] lengths;
        /** LEAST SPELLINGS, each letter by its place among all letters. */
        private final int[][] spellings;
        /** By BOX and place of a letter: that PLAIN BOX stacked beneath the BOX. */
        final int[][] beneath;
        private final int[] draft;
        private final boolean[] seen;

        Boxes(int strands) {
            this.strands = strands;
            points = 2 * strands;
            letters = 2 * (strands - 1);
            count = countPairings(points);
            partners = new int[count][points];
            rings = new int[count];
            lengths = new int[count];
            spellings = new int[count][LONGEST];
            beneath = new int[count][letters];
            draft = new int[points];
            seen = new boolean[points];
            listPairings();
            for (int b = 0; b < count; b++) {
                rings[b] = closeRings(partners[b]);
            }
            stackLetters();
            spellAll();
        }

        private static int countPairings(int points) {
            int ways = 1;
            for (int choices = points - 1; choices > 1; choices -= 2) {
                ways *= choices;
            }
            return ways;
        }

        /** Counts up what each pair passes over, the last pair first: so NUMBERS go up, too. */
        private void listPairings() {
            int[] passed = new int[strands];
            for (int b = 0; b < count; b++) {
                pairBy(passed, partners[b]);
                countUp(passed);
            }
        }

        /** The least free point's partner is behind as many other free points as are passed. */
        private void pairBy(int[] passed, int[] pairing) {
            forgetSeen();
            int k = 0;
            for (int p = 0; p < points - 1 && k < strands; p++) {
                if (!seen[p]) {
                    int q = freeBehind(p, passed[k]);
                    seen[p] = true;
                    seen[q] = true;
                    pair(pairing, p, q);
                    k++;
                }
            }
        }

        private int freeBehind(int p, int passed) {
            int left = passed;
            int q = p + 1;
            while (q < points - 1 && (seen[q] || left > 0)) {
                left -= seen[q] ? 0 : 1;
                q++;
            }
            return q;
        }

        private void countUp(int[] passed) {
            int k = strands - 1;
            while (k >= 0 && passed[k] >= points - 2 * k - 2) {
                passed[k] = 0;
                k--;
            }
            if (k >= 0) {
                passed[k]++;
            }
        }

        /** Counts the BOXES in front: each pair says how many free partners were passed over. */
        private int numberOf(int[] pairing) {
            int number = 0;
            int choices = points - 1;
            for (int p = 0; p < points; p++) {
                if (pairing[p] > p) {
                    int passed = 0;
                    for (int q = p + 1; q < pairing[p]; q++) {
                        passed += pairing[q] > p ? 1 : 0;
                    }
                    number = number * choices + passed;
                    choices -= 2;
                }
            }
            return number;
        }

        int countPlane() {
            int plane = 0;
            for (int b = 0; b < count; b++) {
                plane += isPlane(b) ? 1 : 0;
            }
            return plane;
        }

        boolean isPlane(int b) {
            int[] pairing = partners[b];
            for (int p = 0; p < points; p++) {
                int from = placeRound(p);
                int to = placeRound(pairing[p]);
                for (int r = 0; r < points; r++) {
                    if (isBetween(from, to, r) && !isBetween(from, to, pairing[r])) {
                        return false;
                    }
                }
            }
            return true;
        }

        private boolean isBetween(int from, int to, int point) {
            int place = placeRound(point);
            return from < place && place < to;
        }

        /** Going round: those above from the left, then those beneath from the right. */
        private int placeRound(int point) {
            return point < strands ? point : strands + points - 1 - point;
        }

        int countThrough(int b) {
            int through = 0;
            for (int p = 0; p < strands; p++) {
                through += partners[b][p] >= strands ? 1 : 0;
            }
            return through;
        }

        int upsideDown(int b) {
            for (int p = 0; p < points; p++) {
                draft[across(p)] = across(partners[b][p]);
            }
            return numberOf(draft);
        }

        /** The point in the same place on the other side. */
        private int across(int point) {
            return point < strands ? point + strands : point - strands;
        }

        private int closeRings(int[] pairing) {
            forgetSeen();
            int found = 0;
            for (int p = 0; p < points; p++) {
                if (!seen[p]) {
                    found++;
                    int at = p;
                    for (int step = 0; step < points && !seen[at]; step++) {
                        seen[at] = true;
                        at = pairing[at];
                        seen[at] = true;
                        at = across(at);
                    }
                }
            }
            return found;
        }

        private void forgetSeen() {
            for (int p = 0; p < points; p++) {
                seen[p] = false;
            }
        }

        private void stackLetters() {
            for (int k = 0; k < letters; k++) {
                int lower = ofLetter(letterAt(k));
                for (int b = 0; b < count; b++) {
                    beneath[b][k] = join(partners[b], partners[lower]);
                }
            }
        }

        /** Letters in order: those of E, then those of S. */
        private int letterAt(int k) {
            return k < strands - 1 ? k + 1 : k - (strands - 1) + FIRST_S;
        }

        private boolean isLetter(int letter) {
            return (letter >= 1 && letter < strands)
                    || (letter >= FIRST_S && letter < FIRST_S + strands - 1);
        }

        int ofLetter(int letter) {
            if (letter != 0 && !isLetter(letter)) {
                return BAD;
            }
            for (int p = 0; p < points; p++) {
                draft[p] = across(p);
            }
            if (letter >= FIRST_S) {
                int left = letter - FIRST_S;
                pair(draft, left, strands + left + 1);
                pair(draft, left + 1, strands + left);
            } else if (letter > 0) {
                pair(draft, letter - 1, letter);
                pair(draft, strands + letter - 1, strands + letter);
            }
            return numberOf(draft);
        }

        private static void pair(int[] pairing, int p, int q) {
            pairing[p] = q;
            pairing[q] = p;
        }

        int ofPairs(long pairs) {
            if (pairs >>> (8 * strands) != 0) {
                return BAD;
            }
            forgetSeen();
            for (int k = 0; k < strands; k++) {
                int p = (int) (pairs >>> (8 * k)) & 15;
                int q = (int) (pairs >>> (8 * k + 4)) & 15;
                if (p >= points || q >= points || p == q || seen[p] || seen[q]) {
                    return BAD;
                }
                seen[p] = true;
                seen[q] = true;
                pair(draft, p, q);
            }
            return numberOf(draft);
        }

        /** Draws x above y, with the places between them seen as the strands go through them. */
        private int join(int[] x, int[] y) {
            forgetSeen();
            for (int p = 0; p < points; p++) {
                draft[p] = follow(x, y, p);
            }
            return numberOf(draft) + RING * countInnerRings(x, y);
        }

        private int follow(int[] x, int[] y, int start) {
            boolean upper = start < strands;
            int at = start;
            for (int step = 0; step <= points; step++) {
                at = upper ? x[at] : y[at];
                if (upper == (at < strands)) {
                    return at;
                }
                seen[upper ? at - strands : at] = true;
                at = across(at);
                upper = !upper;
            }
            return start;
        }

        private int countInnerRings(int[] x, int[] y) {
            int found = 0;
            for (int m = 0; m < strands; m++) {
                if (!seen[m]) {
                    found++;
                    int at = m;
                    for (int step = 0; step < strands && !seen[at]; step++) {
                        seen[at] = true;
                        at = across(x[across(at)]);
                        seen[at] = true;
                        at = y[at];
                    }
                }
            }
            return found;
        }

        /**
         * Lengths grow and letters come in order, so the first word that makes a BOX is its least:
         * the beginning of a least word is itself least.
         */
        private void spellAll() {
            for (int b = 0; b < count; b++) {
                lengths[b] = UNKNOWN;
            }
            int[] found = new int[count];
            found[0] = ofLetter(0);
            lengths[found[0]] = 0;
            int size = 1;
            for (int i = 0; i < size && size < count; i++) {
                for (int k = 0; k < letters; k++) {
                    int next = beneath[found[i]][k];
                    if (next < count && lengths[next] == UNKNOWN && size < count) {
                        spellBehind(next, found[i], k);
                        found[size] = next;
                        size++;
                    }
                }
            }
        }

        private void spellBehind(int b, int before, int k) {
            int length = Math.min(lengths[before], LONGEST - 1);
            System.arraycopy(spellings[before], 0, spellings[b], 0, length);
            spellings[b][length] = k;
            lengths[b] = length + 1;
        }

        int letterOf(int b, int i) {
            return i < lengths[b] ? letterAt(spellings[b][i]) : NONE;
        }

        /** A spelling of y makes no RINGS, so its letters beneath x make just those of x on y. */
        int stackOn(int x, int y) {
            int at = x;
            int inner = 0;
            for (int i = 0; i < lengths[y]; i++) {
                int next = beneath[at][spellings[y][i]];
                at = next % RING;
                inner += next - at;
            }
            return at + inner;
        }
    }

    /** A SUM: TERMS in order of their BOXES' NUMBERS, then POWERS; no FACTOR is 0. */
    private static final class Sum {
        int strands = 2;
        int size;
        final int[] numbers = new int[MOST_TERMS];
        final int[] powers = new int[MOST_TERMS];
        final long[] factors = new long[MOST_TERMS];

        void begin(int n) {
            strands = n;
            size = 0;
        }

        void take(Sum other) {
            strands = other.strands;
            size = other.size;
            System.arraycopy(other.numbers, 0, numbers, 0, size);
            System.arraycopy(other.powers, 0, powers, 0, size);
            System.arraycopy(other.factors, 0, factors, 0, size);
        }

        boolean isLike(Sum other) {
            if (strands != other.strands || size != other.size) {
                return false;
            }
            for (int i = 0; i < size; i++) {
                if (!isAt(i, other.numbers[i], other.powers[i]) || factors[i] != other.factors[i]) {
                    return false;
                }
            }
            return true;
        }

        private boolean isAt(int i, int b, int power) {
            return i < size && numbers[i] == b && powers[i] == power;
        }

        private static boolean isFactor(long f) {
            return f >= -MOST_FACTOR && f <= MOST_FACTOR;
        }

        /** False where the document says HIGH; nothing has changed then. */
        boolean join(int b, int power, long f) {
            if (power > MOST_POWER || !isFactor(f)) {
                return false;
            }
            int i = 0;
            while (i < size && (numbers[i] < b || (numbers[i] == b && powers[i] < power))) {
                i++;
            }
            if (isAt(i, b, power)) {
                return change(i, factors[i] + f);
            }
            if (f == 0) {
                return true;
            }
            return insert(i, b, power, f);
        }

        private boolean change(int i, long f) {
            if (!isFactor(f)) {
                return false;
            }
            if (f == 0) {
                moveTail(i + 1, i);
                size--;
            } else {
                factors[i] = f;
            }
            return true;
        }

        private boolean insert(int i, int b, int power, long f) {
            if (size >= MOST_TERMS) {
                return false;
            }
            moveTail(i, i + 1);
            size++;
            numbers[i] = b;
            powers[i] = power;
            factors[i] = f;
            return true;
        }

        private void moveTail(int from, int to) {
            int length = size - from;
            System.arraycopy(numbers, from, numbers, to, length);
            System.arraycopy(powers, from, powers, to, length);
            System.arraycopy(factors, from, factors, to, length);
        }

        boolean joinAll(Sum other, int sign) {
            for (int i = 0; i < other.size; i++) {
                if (!join(other.numbers[i], other.powers[i], sign * other.factors[i])) {
                    return false;
                }
            }
            return true;
        }

        boolean joinProducts(Sum t, Sum u, Boxes all) {
            for (int i = 0; i < t.size; i++) {
                for (int j = 0; j < u.size; j++) {
                    if (!fitsProduct(t.factors[i], u.factors[j])) {
                        return false;
                    }
                    int stacked = all.stackOn(t.numbers[i], u.numbers[j]);
                    int power = t.powers[i] + u.powers[j] + stacked / RING;
                    if (!join(stacked % RING, power, t.factors[i] * u.factors[j])) {
                        return false;
                    }
                }
            }
            return true;
        }

        /** Looked at by division: the product itself may be beyond a long. */
        private static boolean fitsProduct(long f, long g) {
            return g == 0 || Math.abs(f) <= MOST_FACTOR / Math.abs(g);
        }
    }

    /** All HALVES of one number of STRANDS, in order. */
    private static final class Halves {
        /** Four points have six HALVES, fewer points have fewer. */
        private static final int MOST_HALVES = 6;

        final int strands;
        final int[][] partners;
        private final int[] left = new int[MOST_HALVES];
        private final int[][] table = new int[MOST_HALVES][MOST_HALVES];
        private final int[] draft;
        private final boolean[] seen;
        private int size;

        Halves(int strands) {
            this.strands = strands;
            partners = new int[MOST_HALVES][strands];
            draft = new int[strands];
            seen = new boolean[strands];
            int drafts = 1;
            for (int p = 0; p < strands; p++) {
                drafts *= strands + 1;
            }
            for (int i = 0; i < drafts; i++) {
                if (isHalf(draft) && size < MOST_HALVES) {
                    keepDraft();
                }
                nextDraft();
            }
        }

        /** Counts upwards with the last point as the lowest digit: that is the order of HALVES. */
        private void nextDraft() {
            int p = strands - 1;
            while (p >= 0 && draft[p] == strands) {
                draft[p] = 0;
                p--;
            }
            if (p >= 0) {
                draft[p]++;
            }
        }

        private void keepDraft() {
            System.arraycopy(draft, 0, partners[size], 0, strands);
            for (int p = 0; p < strands; p++) {
                left[size] += draft[p] == strands ? 1 : 0;
            }
            size++;
        }

        private boolean isHalf(int[] pairing) {
            for (int p = 0; p < strands; p++) {
                int q = pairing[p];
                if (q < strands && (q == p || pairing[q] != p)) {
                    return false;
                }
                if (q < strands && !keepsWithin(pairing, p, q)) {
                    return false;
                }
            }
            return true;
        }

        /** Points between p and q have partners there: none is left, and no pair crosses. */
        private static boolean keepsWithin(int[] pairing, int p, int q) {
            for (int r = p + 1; r < q; r++) {
                if (pairing[r] <= p || pairing[r] >= q) {
                    return false;
                }
            }
            return true;
        }

        int countLeaving(int t) {
            int found = 0;
            for (int h = 0; h < size; h++) {
                found += left[h] == t ? 1 : 0;
            }
            return found;
        }

        /** Where HALF i of those with t left stands among all; below 0 if there is none. */
        int find(int t, int i) {
            int before = 0;
            for (int h = 0; h < size; h++) {
                if (left[h] == t) {
                    if (before == i) {
                        return h;
                    }
                    before++;
                }
            }
            return -1;
        }

        /** THE FORM of x and y: its power, or NONE. */
        int lay(int x, int y) {
            for (int p = 0; p < strands; p++) {
                seen[p] = false;
            }
            for (int p = 0; p < strands; p++) {
                if (partners[x][p] == strands && !leadsOut(partners[x], partners[y], p)) {
                    return NONE;
                }
            }
            int found = 0;
            for (int p = 0; p < strands; p++) {
                if (!seen[p]) {
                    found++;
                    goRound(partners[x], partners[y], p);
                }
            }
            return found;
        }

        /** From a point left of x: whether it ends at one left of y. */
        private boolean leadsOut(int[] x, int[] y, int start) {
            int at = start;
            for (int step = 0; step < strands; step++) {
                seen[at] = true;
                int next = y[at];
                if (next == strands) {
                    return true;
                }
                seen[next] = true;
                at = x[next];
                if (at == strands) {
                    return false;
                }
            }
            return false;
        }

        private void goRound(int[] x, int[] y, int start) {
            int at = start;
            for (int step = 0; step < strands && at < strands && !seen[at]; step++) {
                seen[at] = true;
                int next = y[at];
                if (next < strands) {
                    seen[next] = true;
                    at = x[next];
                }
            }
        }

        /** FREE: how many rows of the table of FORMS stay, modulo p, when the others are cleared. */
        int rank(int t, int v, int p) {
            int rows = fillTable(t, Math.floorMod(v, p), p);
            int done = 0;
            for (int column = 0; column < rows; column++) {
                int pivot = done;
                while (pivot < rows && table[pivot][column] == 0) {
                    pivot++;
                }
                if (pivot < rows) {
                    swapRows(pivot, done, rows);
                    clearBelow(done, column, rows, p);
                    done++;
                }
            }
            return done;
        }

        private int fillTable(int t, int v, int p) {
            int rows = 0;
            for (int x = 0; x < size; x++) {
                if (left[x] == t) {
                    fillRow(table[rows], x, v, p);
                    rows++;
                }
            }
            return rows;
        }

        private void fillRow(int[] row, int x, int v, int p) {
            int column = 0;
            for (int y = 0; y < size; y++) {
                if (left[y] == left[x]) {
                    int form = lay(x, y);
                    row[column] = form == NONE ? 0 : raise(v, form, p);
                    column++;
                }
            }
        }

        private static int raise(int v, int exponent, int p) {
            int value = 1 % p;
            for (int i = 0; i < exponent; i++) {
                value = value * v % p;
            }
            return value;
        }

        private void swapRows(int i, int j, int rows) {
            for (int column = 0; column < rows; column++) {
                int kept = table[i][column];
                table[i][column] = table[j][column];
                table[j][column] = kept;
            }
        }

        /** Both rows are multiplied crosswise, so nothing is divided; the head is no 0 modulo p. */
        private void clearBelow(int head, int column, int rows, int p) {
            int top = table[head][column];
            for (int i = head + 1; i < rows; i++) {
                int own = table[i][column];
                for (int j = 0; j < rows; j++) {
                    table[i][j] = Math.floorMod(table[i][j] * top - table[head][j] * own, p);
                }
            }
        }
    }

    /** THE ROW OF CROSSINGS and, once it is asked for, ITS SUM. */
    private static final class Crossings {
        int strands = 2;
        int size;
        private final int[] letters = new int[MOST_CROSSINGS];
        private final int[] wholes = new int[2 * MOST_A + 1];
        private boolean summed;

        void begin(int n) {
            strands = n;
            size = 0;
            summed = false;
        }

        boolean allows(int letter) {
            return letter != 0 && letter > -strands && letter < strands;
        }

        boolean append(int letter) {
            if (size >= MOST_CROSSINGS) {
                return false;
            }
            letters[size] = letter;
            size++;
            summed = false;
            return true;
        }

        boolean dropLast() {
            if (size <= 0) {
                return false;
            }
            size--;
            summed = false;
            return true;
        }

        int wholeAt(int k, Boxes all) {
            if (!summed) {
                addStates(all);
                summed = true;
            }
            return wholes[k + MOST_A];
        }

        private void addStates(Boxes all) {
            for (int k = 0; k < wholes.length; k++) {
                wholes[k] = 0;
            }
            int straight = all.ofLetter(0);
            for (int state = 0; state < 1 << size; state++) {
                int at = straight;
                int rings = 0;
                int worth = 0;
                for (int i = 0; i < size; i++) {
                    boolean turned = ((state >> i) & 1) == 1;
                    worth += turned == (letters[i] < 0) ? 1 : -1;
                    if (turned) {
                        int next = all.beneath[at][Math.abs(letters[i]) - 1];
                        at = next % RING;
                        rings += next / RING;
                    }
                }
                addState(worth, rings + all.rings[at] - 1);
            }
        }

        /** A to worth, times (- A A - 1 / A A) to times, with the binomials told one by one. */
        private void addState(int worth, int times) {
            int whole = times % 2 == 0 ? 1 : -1;
            int power = worth + 2 * times;
            for (int j = 0; j <= times; j++) {
                if (power >= -MOST_A && power <= MOST_A) {
                    wholes[power + MOST_A] += whole;
                }
                whole = whole * (times - j) / (j + 1);
                power -= 4;
            }
        }
    }
}
