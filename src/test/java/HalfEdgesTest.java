/** The boundaries that the document names for halves (promises 16 to 19), a test for each sentence. */
public final class HalfEdgesTest {
    private static final int BAD = Sentences.BAD;
    private static final int NONE = Sentences.NONE;
    private static final int MIN = Sentences.MIN;
    private static final int MAX = Sentences.MAX;
    /** How many HALVES there are, by STRANDS and THROUGH. */
    private static final int[][] COUNTS = {{}, {0, 1}, {1, 0, 1}, {0, 2, 0, 1}, {2, 0, 3, 0, 1}};

    private static void due(String call, long got, long want) {
        Sentences.due(call, got, want);
    }

    public static void main(String[] args) {
        strandsOfHalves();
        throughOfHalves();
        countsOfHalves();
        pointsOfAHalf();
        noSuchHalf();
        badAheadOfNoHalf();
        whatIsLeft();
        noneLeftBetweenAPair();
        halvesInOrder();
        formsOfWhichHalves();
        formsThatAreZero();
        powersOfForms();
        numbersForTheLetter();
        lettersModuloThePrime();
        primesAndOthers();
        freeOfNoHalves();
        freeFromNoneToAll();
        halfCallsChangeNothing();
        Sentences.end();
    }

    private static void strandsOfHalves() {
        Sentences.says(16, "BAD (n 1 to 4 ..)");
        Sentences.range("halves(n, 1)", (x, n) -> x.halves(n, 1), 1, 4, BAD);
        Sentences.range("halves(n, 0)", (x, n) -> x.halves(n, 0), 1, 4, BAD);
        Sentences.range("half(n, 1, 0, 0)", (x, n) -> x.half(n, 1, 0, 0), 1, 4, BAD);
        Sentences.range("form(n, n, 0, 0)", (x, n) -> x.form(n, n, 0, 0), 1, 4, BAD);
        Sentences.range("free(n, 1, 1, 2)", (x, n) -> x.free(n, 1, 1, 2), 1, 4, BAD);
    }

    private static void throughOfHalves() {
        Sentences.says(16, "BAD (.. t 0 to n)");
        for (int n = 1; n <= 4; n++) {
            int strands = n;
            Sentences.range("halves(n, t)", (x, t) -> x.halves(strands, t), 0, n, BAD);
            Sentences.range("half(n, t, 0, 0)", (x, t) -> x.half(strands, t, 0, 0), 0, n, BAD);
            Sentences.range("free(n, t, 1, 2)", (x, t) -> x.free(strands, t, 1, 2), 0, n, BAD);
            StrandBoxes x = new StrandBoxes();
            due("form with t n", x.form(n, n, 0, 0), 0);
            due("form with t n + 1", x.form(n, n + 1, 0, 0), BAD);
            due("form with t -1", x.form(n, -1, 0, 0), BAD);
            due("form with t MIN", x.form(n, MIN, 0, 0), BAD);
            due("form with t MAX", x.form(n, MAX, 0, 0), BAD);
        }
    }

    private static void countsOfHalves() {
        Sentences.says(16, "How many HALVES there are");
        StrandBoxes x = new StrandBoxes();
        for (int n = 1; n <= 4; n++) {
            for (int t = 0; t <= n; t++) {
                due("halves(" + n + ", " + t + ")", x.halves(n, t), COUNTS[n][t]);
            }
        }
    }

    private static void pointsOfAHalf() {
        Sentences.says(17, "The partner of a POINT (.. of n POINTS in a row); BAD");
        for (int n = 1; n <= 4; n++) {
            int strands = n;
            Sentences.range("half(n, n, 0, point)", (x, p) -> x.half(strands, strands, 0, p), 0, n - 1, BAD);
        }
        Sentences.range("half(4, 2, 2, point)", (x, p) -> x.half(4, 2, 2, p), 0, 3, BAD);
        Sentences.range("half(4, 0, 1, point)", (x, p) -> x.half(4, 0, 1, p), 0, 3, BAD);
    }

    /** The document leaves room below 0: there, too, is no such HALF. */
    private static void noSuchHalf() {
        Sentences.says(17, "NONE: no such HALF");
        for (int n = 1; n <= 4; n++) {
            for (int t = 0; t <= n; t++) {
                StrandBoxes x = new StrandBoxes();
                int count = COUNTS[n][t];
                for (int p = 0; p < n; p++) {
                    if (count > 0) {
                        int q = x.half(n, t, count - 1, p);
                        due("the last HALF has a partner", q >= 0 && q <= n ? 1 : 0, 1);
                    }
                    for (int i : new int[] {MIN, -2, -1, count, count + 1, MAX}) {
                        due("half " + i + " of " + count, x.half(n, t, i, p), NONE);
                    }
                }
            }
        }
    }

    private static void badAheadOfNoHalf() {
        Sentences.says(17, "NONE ..; BAD: of several BAD is the first");
        StrandBoxes x = new StrandBoxes();
        due("no HALF, point 4", x.half(4, 2, 3, 4), BAD);
        due("no HALF, point -1", x.half(4, 2, 3, -1), BAD);
        due("no HALF, point 3", x.half(4, 2, 3, 3), NONE);
        due("no HALF, t 5", x.half(4, 5, 3, 0), BAD);
        due("no HALF, n 5", x.half(5, 2, 99, 0), BAD);
        due("none at all, point 3", x.half(3, 2, 0, 3), BAD);
        due("none at all, point 2", x.half(3, 2, 0, 2), NONE);
    }

    private static void whatIsLeft() {
        Sentences.says(17, "(n: it is left)");
        for (int n = 1; n <= 4; n++) {
            for (int t = 0; t <= n; t++) {
                for (int i = 0; i < COUNTS[n][t]; i++) {
                    StrandBoxes x = new StrandBoxes();
                    int left = 0;
                    for (int p = 0; p < n; p++) {
                        int q = x.half(n, t, i, p);
                        left += q == n ? 1 : 0;
                        due("its partner's partner", q == n ? p : x.half(n, t, i, q), p);
                    }
                    due("left of half " + i, left, t);
                }
            }
        }
    }

    private static void dueHalf(int n, int t, int i, int... row) {
        StrandBoxes x = new StrandBoxes();
        for (int p = 0; p < n; p++) {
            due("half(" + n + ", " + t + ", " + i + ", " + p + ")", x.half(n, t, i, p), row[p]);
        }
    }

    private static void noneLeftBetweenAPair() {
        Sentences.says(17, "no two pairs cross, and none of those left lies between the POINTS of a pair");
        dueHalf(3, 1, 0, 1, 0, 3);
        dueHalf(3, 1, 1, 3, 2, 1);
        due("no third one, with 0 and 2", new StrandBoxes().half(3, 1, 2, 0), NONE);
        dueHalf(4, 0, 0, 1, 0, 3, 2);
        dueHalf(4, 0, 1, 3, 2, 1, 0);
        due("no third one, crossing", new StrandBoxes().half(4, 0, 2, 0), NONE);
    }

    private static void halvesInOrder() {
        Sentences.says(17, "the one is first whose partner of POINT 0 is less (of one that is left: n)");
        dueHalf(1, 1, 0, 1);
        dueHalf(2, 0, 0, 1, 0);
        dueHalf(2, 2, 0, 2, 2);
        dueHalf(3, 3, 0, 3, 3, 3);
        dueHalf(4, 2, 0, 1, 0, 4, 4);
        dueHalf(4, 2, 1, 4, 2, 1, 4);
        dueHalf(4, 2, 2, 4, 4, 3, 2);
        dueHalf(4, 4, 0, 4, 4, 4, 4);
    }

    private static void formsOfWhichHalves() {
        Sentences.says(18, "BAD: also no such HALF");
        for (int n = 1; n <= 4; n++) {
            for (int t = 0; t <= n; t++) {
                int strands = n;
                int through = t;
                int count = COUNTS[n][t];
                for (int wrong : new int[] {MIN, -2, -1, count, count + 1, MAX}) {
                    StrandBoxes x = new StrandBoxes();
                    due("i " + wrong, x.form(n, t, wrong, 0), BAD);
                    due("j " + wrong, x.form(n, t, 0, wrong), BAD);
                    due("both " + wrong, x.form(n, t, wrong, wrong), BAD);
                    Sentences.unchanged("form", y -> 0, y -> y.form(strands, through, wrong, 0));
                }
                if (count > 0) {
                    StrandBoxes x = new StrandBoxes();
                    due("the last with itself", x.form(n, t, count - 1, count - 1), (n - t) / 2);
                    due("the first with itself", x.form(n, t, 0, 0), (n - t) / 2);
                }
            }
        }
        due("BAD ahead of a FORM that is 0", new StrandBoxes().form(4, 2, 0, 3), BAD);
    }

    private static void formsThatAreZero() {
        Sentences.says(18, "NONE: it is 0");
        StrandBoxes x = new StrandBoxes();
        due("the first and the last", x.form(4, 2, 0, 2), NONE);
        due("the last and the first", x.form(4, 2, 2, 0), NONE);
        due("neighbours", x.form(4, 2, 0, 1), 0);
        due("neighbours", x.form(4, 2, 2, 1), 0);
        int none = 0;
        for (int n = 1; n <= 4; n++) {
            for (int t = 0; t <= n; t++) {
                for (int i = 0; i < COUNTS[n][t] * COUNTS[n][t]; i++) {
                    none += x.form(n, t, i / COUNTS[n][t], i % COUNTS[n][t]) == NONE ? 1 : 0;
                }
            }
        }
        due("pairs of HALVES whose FORM is 0", none, 2);
    }

    private static void powersOfForms() {
        Sentences.says(18, "the letter to the power of how many RINGS");
        StrandBoxes x = new StrandBoxes();
        due("none: all are left", x.form(4, 4, 0, 0), 0);
        due("none: they lead through", x.form(3, 1, 0, 1), 0);
        due("one, of one pair", x.form(2, 0, 0, 0), 1);
        due("one, of two pairs each", x.form(4, 0, 0, 1), 1);
        due("one, of two pairs each", x.form(4, 0, 1, 0), 1);
        due("two", x.form(4, 0, 0, 0), 2);
        due("two, within one another", x.form(4, 0, 1, 1), 2);
        due("one strand", x.form(1, 1, 0, 0), 0);
    }

    private static void numbersForTheLetter() {
        Sentences.says(19, "BAD: also v not -1000 to 1000");
        Sentences.range("free(4, 2, v, 997)", (x, v) -> x.free(4, 2, v, 997), -1000, 1000, BAD);
        Sentences.range("free(3, 2, v, 2)", (x, v) -> x.free(3, 2, v, 2), -1000, 1000, BAD);
    }

    /** For 3 1 the table is v, 1; 1, v: one less is free where v v is 1. */
    private static void lettersModuloThePrime() {
        Sentences.says(19, "FREE is, for a number v and a prime p, .. modulo p (below 0, a wrap-around)");
        for (int p : new int[] {2, 3, 5, 499, 991, 997}) {
            StrandBoxes x = new StrandBoxes();
            for (int v : new int[] {-1000, -999, -998, -997, -996, -3, -2, -1, 0, 1, 2, 3, 996, 997, 998, 999, 1000}) {
                int rest = Math.floorMod(v, p);
                due("3 1, v " + v + ", p " + p, x.free(3, 1, v, p), rest * rest % p == 1 ? 1 : 2);
                due("2 0, v " + v + ", p " + p, x.free(2, 0, v, p), rest == 0 ? 0 : 1);
                int want = rest == 0 ? 0 : rest * rest % p == 1 ? 1 : 2;
                due("4 0, v " + v + ", p " + p, x.free(4, 0, v, p), want);
            }
        }
    }

    private static void primesAndOthers() {
        Sentences.says(19, "p no prime from 2 to 997");
        int primes = 0;
        for (int p = -20; p <= 1100; p++) {
            boolean prime = p >= 2 && p <= 997;
            for (int d = 2; d < p && prime; d++) {
                prime = p % d != 0;
            }
            primes += prime ? 1 : 0;
            due("p " + p, new StrandBoxes().free(1, 1, 1, p), prime ? 1 : BAD);
        }
        due("primes up to 997", primes, 168);
        StrandBoxes x = new StrandBoxes();
        for (int p : new int[] {MIN, MIN + 1, -997, -2, 1009, 1000003, MAX - 1, MAX}) {
            due("p " + p, x.free(1, 1, 1, p), BAD);
        }
        due("squares of primes", x.free(1, 1, 1, 961) + x.free(1, 1, 1, 4) + x.free(1, 1, 1, 9), 3 * BAD);
        due("all wrong", x.free(0, -1, 1001, 1), BAD);
    }

    private static void freeOfNoHalves() {
        Sentences.says(19, "how many rows of the table of all FORMS (there may be none)");
        StrandBoxes x = new StrandBoxes();
        for (int n = 1; n <= 4; n++) {
            for (int t = 0; t <= n; t++) {
                if (COUNTS[n][t] == 0) {
                    due("free(" + n + ", " + t + ")", x.free(n, t, 7, 5), 0);
                    due("v wrong", x.free(n, t, 1001, 5), BAD);
                    due("p wrong", x.free(n, t, 7, 6), BAD);
                }
            }
        }
    }

    /** The determinants: 4 2 has v (v v - 2), 4 0 has v v (v v - 1). */
    private static void freeFromNoneToAll() {
        Sentences.says(19, "no one of which is made from the others: its rank");
        StrandBoxes x = new StrandBoxes();
        due("none of one", x.free(2, 0, 0, 2), 0);
        due("one of one", x.free(2, 0, 1, 2), 1);
        due("none of two", x.free(4, 0, 0, 997), 0);
        due("one of two", x.free(4, 0, 1, 997), 1);
        due("one of two", x.free(4, 0, 996, 997), 1);
        due("two of two", x.free(4, 0, 995, 997), 2);
        due("two of three, v 0", x.free(4, 2, 0, 3), 2);
        due("two of three, v v 2", x.free(4, 2, 3, 7), 2);
        due("two of three, v v 2", x.free(4, 2, 4, 7), 2);
        due("three of three", x.free(4, 2, 2, 7), 3);
        due("three of three, 2 is no square", x.free(4, 2, 1, 3), 3);
        due("two of three, modulo 2", x.free(4, 2, 2, 2), 2);
        due("three of three, modulo 2", x.free(4, 2, 1, 2), 3);
        due("the letter to the power 0 is 1, v 0", x.free(4, 4, 0, 2), 1);
        due("a row that begins with 0", x.free(3, 1, 0, 2), 2);
    }

    private static void halfCallsChangeNothing() {
        Sentences.says(16, "nothing changes then");
        Sentences.Calls before = x -> {
            x.add(0, 2, 20, 5);
            x.row(4);
            x.cross(-3);
            return x.cross(2);
        };
        Sentences.unchanged("halves", before, x -> x.halves(4, 2) + x.halves(4, 5) + x.halves(0, 0));
        Sentences.unchanged("half", before, x -> x.half(4, 2, 1, 1) + x.half(4, 2, 3, 0) + x.half(4, 2, 0, 4));
        Sentences.unchanged("form", before, x -> x.form(4, 2, 0, 2) + x.form(4, 2, 0, 3));
        Sentences.unchanged("free", before, x -> x.free(4, 2, 5, 7) + x.free(4, 2, 5, 8));
        StrandBoxes x = new StrandBoxes();
        x.free(4, 2, 5, 7);
        due("free of fewer behind one of more", x.free(4, 0, 0, 5), 0);
        due("free of more behind one of fewer", x.free(4, 2, 5, 7), 3);
        x.form(4, 2, 0, 3);
        due("form behind a refused one", x.form(4, 2, 0, 2), NONE);
        due("form behind one that is 0", x.form(4, 0, 0, 0), 2);
    }
}
