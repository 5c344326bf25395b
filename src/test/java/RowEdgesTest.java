/** The boundaries that the document names for crossings (promises 1 and 20 to 23), and 512 calls. */
public final class RowEdgesTest {
    private static final int BAD = Sentences.BAD;
    private static final int NO = Sentences.NO;
    private static final int FULL = Sentences.FULL;
    private static final int MIN = Sentences.MIN;
    private static final int MAX = Sentences.MAX;
    private static final int POWER_BAD = -1000000;

    private static void due(String call, long got, long want) {
        Sentences.due(call, got, want);
    }

    public static void main(String[] args) {
        noRowAtFirst();
        strandsOfARow();
        beginsAnew();
        rowRefused();
        lettersOfACrossing();
        eightCrossings();
        badAheadOfFull();
        crossRefused();
        backToNone();
        backRefused();
        powersOfA();
        emptyRows();
        oneCrossing();
        highestPowers();
        powersFollowTheRow();
        ringsOneLess();
        powerChangesNothing();
        lastCallOfAnObject();
        Sentences.end();
    }

    private static void noRowAtFirst() {
        Sentences.says(1, "no ROW OF CROSSINGS (n 2)");
        due("back", new StrandBoxes().back(), NO);
        due("cross(1)", new StrandBoxes().cross(1), 1);
        due("cross(-1)", new StrandBoxes().cross(-1), 1);
        due("cross(2)", new StrandBoxes().cross(2), BAD);
        due("cross(-2)", new StrandBoxes().cross(-2), BAD);
        due("cross(0)", new StrandBoxes().cross(0), BAD);
        StrandBoxes x = new StrandBoxes();
        duePowers(x, 2, -1, -2, -1);
    }

    private static void strandsOfARow() {
        Sentences.says(20, "of n STRANDS (2 to 4) .. BAD.");
        Sentences.range("row(n)", (x, n) -> x.row(n), 2, 4, BAD);
        for (int n = 2; n <= 4; n++) {
            StrandBoxes x = new StrandBoxes();
            due("row(" + n + ")", x.row(n), 0);
            due("its last letter", x.cross(n - 1), 1);
            due("one behind", x.cross(n), BAD);
        }
    }

    private static void beginsAnew() {
        Sentences.says(20, "begins anew, empty: 0");
        for (int crossings : new int[] {0, 1, 7, 8}) {
            StrandBoxes x = new StrandBoxes();
            x.row(3);
            for (int i = 0; i < crossings; i++) {
                x.cross(2);
            }
            x.power(0);
            due("anew, of the same STRANDS", x.row(3), 0);
            due("empty", x.back(), NO);
            duePowers(x, 4, 1, 0, 2, -4, 1);
            for (int i = 0; i < 8; i++) {
                due("eight again", x.cross(-1), i + 1);
            }
            due("anew, of other STRANDS", x.row(2), 0);
            duePowers(x, 2, -1, -2, -1);
            due("empty", x.back(), NO);
        }
    }

    /** A row of three STRANDS with so many crossings, its powers asked for or not. */
    private static Sentences.Calls crossed(int crossings, boolean asked) {
        return x -> {
            x.row(3);
            for (int i = 0; i < crossings; i++) {
                x.cross(i % 2 == 0 ? 1 : -2);
            }
            x.add(1, 2, 3, 4);
            return asked ? x.power(0) : 0;
        };
    }

    private static void rowRefused() {
        Sentences.says(20, "BAD: nothing changes then");
        for (int crossings : new int[] {0, 1, 5, 8}) {
            for (int n : new int[] {MIN, -2, 0, 1, 5, MAX}) {
                Sentences.refused("row(" + n + ")", crossed(crossings, false), x -> x.row(n), BAD);
                Sentences.refused("row(" + n + ")", crossed(crossings, true), x -> x.row(n), BAD);
            }
        }
    }

    private static void lettersOfACrossing() {
        Sentences.says(21, "its letter (1 to n - 1), with the sign +, or less than 0: with the sign -");
        for (int n = 2; n <= 4; n++) {
            int strands = n;
            for (int letter = -15; letter <= 15; letter++) {
                boolean good = letter != 0 && Math.abs(letter) <= n - 1;
                StrandBoxes x = new StrandBoxes();
                x.row(n);
                due("cross(" + letter + ") of " + n, x.cross(letter), good ? 1 : BAD);
                due("how many then", x.back(), good ? 0 : NO);
            }
            for (int letter : new int[] {MIN, MIN + 1, MIN + 2, MAX - 1, MAX}) {
                Sentences.refused("cross(" + letter + ")", x -> x.row(strands), x -> x.cross(letter), BAD);
            }
        }
    }

    private static void eightCrossings() {
        Sentences.says(21, "how many there are .. FULL: 8");
        for (int n = 2; n <= 4; n++) {
            StrandBoxes x = new StrandBoxes();
            x.row(n);
            for (int i = 0; i < 8; i++) {
                due("crossing " + i, x.cross(i % 2 == 0 ? n - 1 : 1 - n), i + 1);
            }
            due("the ninth", x.cross(1), FULL);
            due("the ninth of -", x.cross(1 - n), FULL);
            due("one back", x.back(), 7);
            due("one more", x.cross(-1), 8);
            due("full again", x.cross(1), FULL);
        }
    }

    private static void badAheadOfFull() {
        Sentences.says(21, "Of several the first: BAD, FULL");
        for (int n = 2; n <= 4; n++) {
            StrandBoxes x = new StrandBoxes();
            x.row(n);
            for (int i = 0; i < 8; i++) {
                x.cross(1);
            }
            for (int letter : new int[] {MIN, -n - 1, -n, 0, n, n + 1, MAX}) {
                due("cross(" + letter + ") of eight", x.cross(letter), BAD);
            }
            due("cross(n - 1) of eight", x.cross(n - 1), FULL);
            due("cross(1 - n) of eight", x.cross(1 - n), FULL);
        }
    }

    private static void crossRefused() {
        Sentences.says(21, "BAD; FULL: nothing changes then");
        for (int letter : new int[] {MIN, -3, 0, 3, 11, MAX}) {
            Sentences.refused("of none", crossed(0, true), x -> x.cross(letter), BAD);
            Sentences.refused("of five", crossed(5, true), x -> x.cross(letter), BAD);
            Sentences.refused("of five", crossed(5, false), x -> x.cross(letter), BAD);
            Sentences.refused("of eight", crossed(8, true), x -> x.cross(letter), BAD);
        }
        for (int letter : new int[] {-2, -1, 1, 2}) {
            Sentences.refused("a ninth", crossed(8, true), x -> x.cross(letter), FULL);
            Sentences.refused("a ninth", crossed(8, false), x -> x.cross(letter), FULL);
        }
    }

    private static void backToNone() {
        Sentences.says(22, "how many are left. NO: there is none.");
        for (int crossings : new int[] {0, 1, 2, 8}) {
            StrandBoxes x = new StrandBoxes();
            crossed(crossings, false).on(x);
            for (int left = crossings - 1; left >= 0; left--) {
                due("back", x.back(), left);
            }
            due("none", x.back(), NO);
            due("none again", x.back(), NO);
            due("one again", x.cross(2), 1);
            due("back again", x.back(), 0);
            due("and none", x.back(), NO);
        }
    }

    private static void backRefused() {
        Sentences.says(22, "NO: nothing changes then");
        Sentences.refused("on a new object", x -> 0, x -> x.back(), NO);
        Sentences.refused("of no crossing", crossed(0, true), x -> x.back(), NO);
        Sentences.refused("of no crossing", crossed(0, false), x -> x.back(), NO);
        Sentences.refused("of four STRANDS", x -> x.row(4), x -> x.back(), NO);
        Sentences.refused("behind the only one", x -> x.row(4) + x.cross(3) + x.back(), x -> x.back(), NO);
    }

    private static void powersOfA() {
        Sentences.says(23, "by powers of A (-40 to 40). BAD: -1000000.");
        Sentences.range("power(k)", (x, k) -> x.power(k), -40, 40, POWER_BAD);
        StrandBoxes x = new StrandBoxes();
        crossed(8, false).on(x);
        due("40", x.power(40), 0);
        due("-40", x.power(-40), 0);
        due("41", x.power(41), POWER_BAD);
        due("-41", x.power(-41), POWER_BAD);
        due("MIN", x.power(MIN), POWER_BAD);
        due("MAX", x.power(MAX), POWER_BAD);
        due("MIN + 40", x.power(MIN + 40), POWER_BAD);
        due("MAX - 40", x.power(MAX - 40), POWER_BAD);
    }

    /** All powers of A: told are pairs of a power and its whole, the others are 0. */
    private static void duePowers(StrandBoxes x, int... told) {
        for (int k = -40; k <= 40; k++) {
            int want = 0;
            for (int i = 0; i < told.length; i += 2) {
                want = told[i] == k ? told[i + 1] : want;
            }
            due("power(" + k + ")", x.power(k), want);
        }
    }

    private static void emptyRows() {
        Sentences.says(23, "as many RINGS as it has then, one less (no crossing)");
        StrandBoxes x = new StrandBoxes();
        x.row(2);
        duePowers(x, 2, -1, -2, -1);
        x.row(3);
        duePowers(x, 4, 1, 0, 2, -4, 1);
        x.row(4);
        duePowers(x, 6, -1, 2, -3, -2, -3, -6, -1);
    }

    private static void oneCrossing() {
        Sentences.says(23, "straight ones of + and E ones of - are worth A, others 1 / A");
        StrandBoxes x = new StrandBoxes();
        x.cross(1);
        duePowers(x, 3, -1);
        x.back();
        x.cross(-1);
        duePowers(x, -3, -1);
        x.cross(1);
        duePowers(x, 2, -1, -2, -1);
        x.row(3);
        x.cross(2);
        duePowers(x, 5, 1, 1, 1);
    }

    /** All E of eight alike on four STRANDS: ten RINGS, so A to 8 + 18. */
    private static void highestPowers() {
        Sentences.says(23, "ITS SUM .. by powers of A (-40 to 40): the highest and the lowest");
        for (int letter = 1; letter <= 3; letter++) {
            StrandBoxes x = new StrandBoxes();
            x.row(4);
            for (int i = 0; i < 8; i++) {
                x.cross(-letter);
            }
            due("26", x.power(26), -1);
            due("27", x.power(27), 0);
            due("28", x.power(28), 0);
            due("30", x.power(30), 0);
            x.row(4);
            for (int i = 0; i < 8; i++) {
                x.cross(letter);
            }
            due("-26", x.power(-26), -1);
            due("-27", x.power(-27), 0);
            due("-28", x.power(-28), 0);
            due("-30", x.power(-30), 0);
        }
    }

    private static void powersFollowTheRow() {
        Sentences.says(23, "The whole at a power of A in its SUM (of the row as it stands)");
        StrandBoxes x = new StrandBoxes();
        due("empty", x.power(2), -1);
        x.cross(1);
        due("behind a cross", x.power(2), 0);
        due("behind a cross", x.power(3), -1);
        x.cross(2);
        due("behind a refused cross", x.power(3), -1);
        x.back();
        due("behind back", x.power(3), 0);
        due("behind back", x.power(2), -1);
        x.back();
        due("behind a refused back", x.power(2), -1);
        x.row(3);
        due("behind row", x.power(2), 0);
        due("behind row", x.power(4), 1);
        x.row(5);
        due("behind a refused row", x.power(4), 1);
        x.power(41);
        due("behind a refused power", x.power(0), 2);
    }

    private static void ringsOneLess() {
        Sentences.says(23, "one less of those is worth (- A A - 1 / A A) each");
        StrandBoxes x = new StrandBoxes();
        x.cross(1);
        x.cross(1);
        duePowers(x, 4, -1, -4, -1);
        x.cross(1);
        duePowers(x, 5, -1, -3, -1, -7, 1);
        x.row(3);
        x.cross(1);
        x.cross(2);
        duePowers(x, 6, 1);
    }

    private static void powerChangesNothing() {
        Sentences.says(23, "nothing changes then");
        for (int crossings : new int[] {0, 3, 8}) {
            for (int k : new int[] {MIN, -41, -40, 0, 40, 41, MAX}) {
                Sentences.unchanged("power(" + k + ")", crossed(crossings, false), x -> x.power(k));
            }
        }
    }

    private static void lastCallOfAnObject() {
        Sentences.says(1, "An object is used for at most 512 calls after it has been made");
        StrandBoxes x = new StrandBoxes();
        x.row(4);
        x.clear(0, 4);
        for (int call = 3; call <= Sentences.MOST_CALLS - 2; call++) {
            x.add(0, call % 105, 0, 1000000);
        }
        due("call 511", x.sum(0, 1), 40);
        due("call 512", x.cross(-3), 1);
        StrandBoxes y = new StrandBoxes();
        for (int call = 1; call <= Sentences.MOST_CALLS; call++) {
            due("back at call " + call, y.back(), NO);
        }
    }
}
