/** The boundaries that the document names for sums (promises 1 and 9 to 15), a test for each sentence. */
public final class SumEdgesTest {
    private static final int BAD = Sentences.BAD;
    private static final int NO = Sentences.NO;
    private static final int HIGH = Sentences.HIGH;
    private static final int MIN = Sentences.MIN;
    private static final int MAX = Sentences.MAX;
    private static final long TERM_NONE = -1000000000000004L;
    private static final long TERM_BAD = -1000000000000001L;
    private static final long MOST = 1000000000000L;
    private static final long MILLION = 1000000L;
    private static final int AND = 0;
    private static final int LESS = 1;
    private static final int TIMES = 2;
    /** BOXES of two STRANDS. */
    private static final int E = 0;
    private static final int I = 1;
    private static final int S = 2;

    private static void due(String call, long got, long want) {
        Sentences.due(call, got, want);
    }

    public static void main(String[] args) {
        sumsAtFirst();
        sumsFromNoneToSeven();
        strandsOfASum();
        howManyItHad();
        clearRefused();
        boxesOfASumsStrands();
        powersThatAreAdded();
        factorsThatAreAdded();
        factorZero();
        fortyTermsByAdd();
        factorsStandingByAdd();
        likeOnesPutTogether();
        zeroLeftOut();
        termsInOrder();
        addRefused();
        badAheadOfHighInAdd();
        howOfWork();
        unlikeStrands();
        badAheadOfNoAheadOfHigh();
        factorsAddedUp();
        factorsMultiplied();
        factorsBeyondALong();
        factorsOnTheWay();
        powersMultiplied();
        powersOnTheWay();
        fortyTermsByAndAndLess();
        fortyTermsByTimes();
        termsOnTheWay();
        workWithEmptySums();
        workIntoItself();
        workRefused();
        whatOfASum();
        whatOfATerm();
        belowTheFirstTerm();
        behindTheLastTerm();
        sameOrNot();
        closedPowers();
        closedHighestAndLowest();
        closedWholes();
        askingChangesNothing();
        Sentences.end();
    }

    private static void sumsAtFirst() {
        Sentences.says(1, "All SUMS of two STRANDS, without TERMS");
        for (int s = 0; s < 8; s++) {
            StrandBoxes x = new StrandBoxes();
            due("STRANDS", x.sum(s, 0), 2);
            due("TERMS", x.sum(s, 1), 0);
            due("TERM 0", x.term(s, 0, 2), TERM_NONE);
            due("BOX 3 of two STRANDS", x.add(s, 3, 0, 1), BAD);
            due("BOX 2 of two STRANDS", x.add(s, 2, 0, 1), 1);
            due("it had", x.clear(s, 2), 1);
        }
        StrandBoxes x = new StrandBoxes();
        for (int s = 0; s < 8; s++) {
            due("it had", x.clear(s, 4), 0);
        }
    }

    private static void sumsFromNoneToSeven() {
        Sentences.says(9, "SUMS 0 to 7");
        Sentences.range("clear(s, 3)", (x, s) -> x.clear(s, 3), 0, 7, BAD);
        Sentences.range("add(s, 1, 0, 1)", (x, s) -> x.add(s, 1, 0, 1), 0, 7, BAD);
        for (int how = 0; how < 3; how++) {
            int asked = how;
            Sentences.range("work(s, how, 0, 0)", (x, s) -> x.work(s, asked, 0, 0), 0, 7, BAD);
            Sentences.range("work(0, how, t, 0)", (x, t) -> x.work(0, asked, t, 0), 0, 7, BAD);
            Sentences.range("work(0, how, 0, u)", (x, u) -> x.work(0, asked, 0, u), 0, 7, BAD);
        }
        Sentences.range("sum(s, 0)", (x, s) -> x.sum(s, 0), 0, 7, BAD);
        Sentences.range("sum(s, 1)", (x, s) -> x.sum(s, 1), 0, 7, BAD);
        Sentences.range("term(s, 0, 0)", (x, s) -> x.term(s, 0, 0), 0, 7, TERM_BAD);
        Sentences.range("same(s, 0)", (x, s) -> x.same(s, 0), 0, 7, BAD);
        Sentences.range("same(0, t)", (x, t) -> x.same(0, t), 0, 7, BAD);
        Sentences.range("closed(s, 2)", (x, s) -> {
            x.add(s, I, 0, 1);
            return x.closed(s, 2);
        }, 0, 7, 0);
    }

    private static void strandsOfASum() {
        Sentences.says(9, "SUM s is of n STRANDS (n from 1 to 4)");
        Sentences.range("clear(3, n)", (x, n) -> x.clear(3, n), 1, 4, BAD);
        int[] last = {-1, 0, 2, 14, 104};
        StrandBoxes x = new StrandBoxes();
        for (int n = 1; n <= 4; n++) {
            x.clear(n, n);
            due("STRANDS of it", x.sum(n, 0), n);
            due("its last BOX", x.add(n, last[n], 0, 1), 1);
            due("one behind it", x.add(n, last[n] + 1, 0, 1), BAD);
        }
        due("STRANDS of another one", x.sum(0, 0), 2);
        due("STRANDS of another one", x.sum(5, 0), 2);
    }

    private static void howManyItHad() {
        Sentences.says(9, "without TERMS: how many it had");
        for (int terms : new int[] {0, 1, 39, 40}) {
            StrandBoxes x = new StrandBoxes();
            Sentences.fill(x, 6, 0, terms);
            x.add(5, 0, 0, 1);
            due("it had", x.clear(6, 2), terms);
            due("has now", x.sum(6, 1), 0);
            due("TERM 0 now", x.term(6, 0, 2), TERM_NONE);
            due("has when cleared again", x.clear(6, 2), 0);
            due("the one beside it", x.sum(5, 1), 1);
            Sentences.fill(x, 6, 0, 40);
            due("full again", x.sum(6, 1), 40);
        }
    }

    private static void clearRefused() {
        Sentences.says(9, "BAD: nothing changes then");
        Sentences.Calls full = x -> {
            Sentences.fill(x, 0, 3, 40);
            return x.clear(7, 4);
        };
        Sentences.refused("clear(0, 0)", full, x -> x.clear(0, 0), BAD);
        Sentences.refused("clear(0, 5)", full, x -> x.clear(0, 5), BAD);
        Sentences.refused("clear(-1, 2)", full, x -> x.clear(-1, 2), BAD);
        Sentences.refused("clear(8, 2)", full, x -> x.clear(8, 2), BAD);
        Sentences.refused("clear(8, 5)", full, x -> x.clear(8, 5), BAD);
        Sentences.refused("clear(7, 0)", full, x -> x.clear(7, 0), BAD);
    }

    private static void boxesOfASumsStrands() {
        Sentences.says(10, "BOX b: BAD");
        int[] last = {-1, 0, 2, 14, 104};
        for (int n = 1; n <= 4; n++) {
            int strands = n;
            Sentences.CallWith asked = (x, b) -> {
                x.clear(0, strands);
                return x.add(0, b, 0, 1);
            };
            for (int b : new int[] {MIN, -2, -1, last[n] + 1, last[n] + 2, MAX}) {
                due("add of BOX " + b + " of " + n, asked.on(new StrandBoxes(), b), BAD);
                Sentences.refused("add of BOX " + b, x -> x.clear(0, strands), x -> x.add(0, b, 0, 1), BAD);
            }
            for (int b = 0; b <= last[n]; b++) {
                due("add of BOX " + b + " of " + n, asked.on(new StrandBoxes(), b), 1);
            }
        }
    }

    private static void powersThatAreAdded() {
        Sentences.says(10, "a POWER of the letter (0 to 20); BAD: also the POWER");
        Sentences.range("add(0, 1, power, 1)", (x, power) -> x.add(0, 1, power, 1), 0, 20, BAD);
        StrandBoxes x = new StrandBoxes();
        x.add(0, 1, 20, 5);
        x.add(0, 1, 0, 4);
        Sentences.dueTerm(x, 0, 0, 1, 0, 4);
        Sentences.dueTerm(x, 0, 1, 1, 20, 5);
    }

    private static void factorsThatAreAdded() {
        Sentences.says(10, "A FACTOR f (-1000000 to 1000000)");
        long[] good = {-MILLION, -MILLION + 1, -1, 1, MILLION - 1, MILLION};
        for (long f : good) {
            StrandBoxes x = new StrandBoxes();
            due("add of " + f, x.add(0, 1, 0, f), 1);
            Sentences.dueTerm(x, 0, 0, 1, 0, f);
        }
        long wrap = 1L << 32;
        long[] wrong = {-MILLION - 1, MILLION + 1, -MILLION - 2, MILLION + 2, wrap, wrap + 1, wrap - 1, -wrap, -wrap + 1,
            MOST, -MOST, Long.MIN_VALUE, Long.MIN_VALUE + 1, Long.MAX_VALUE, Long.MAX_VALUE - 1};
        for (long f : wrong) {
            Sentences.refused("add of " + f, x -> 0, x -> x.add(0, 1, 0, f), BAD);
            Sentences.refused("add of " + f + " to a TERM", x -> x.add(0, 1, 0, 7), x -> x.add(0, 1, 0, f), BAD);
        }
    }

    /** The document leaves room here: 0 is within the numbers told, and is no TERM. */
    private static void factorZero() {
        Sentences.says(10, "a FACTOR (a whole, not 0 ..)");
        StrandBoxes x = new StrandBoxes();
        due("0 to none", x.add(0, 1, 0, 0), 0);
        due("no TERM", x.term(0, 0, 2), TERM_NONE);
        due("1 to none", x.add(0, 1, 0, 1), 1);
        due("0 to a TERM", x.add(0, 1, 0, 0), 1);
        Sentences.dueTerm(x, 0, 0, 1, 0, 1);
        due("0 beside a TERM", x.add(0, 1, 1, 0), 1);
        due("-1 to a TERM", x.add(0, 1, 0, -1), 0);
        Sentences.fill(x, 0, 0, 40);
        due("0 to forty", x.add(0, 2, 20, 0), 40);
        due("BAD with 0, too", x.add(0, 3, 0, 0), BAD);
        due("BAD with 0, too", x.add(0, 0, 21, 0), BAD);
    }

    private static void fortyTermsByAdd() {
        Sentences.says(10, "TERMS (none at first, 40 at most); HIGH");
        StrandBoxes x = new StrandBoxes();
        for (int k = 0; k < 40; k++) {
            due("TERM " + k, x.add(4, k / 21, k % 21, 1), k + 1);
        }
        due("one more behind", x.add(4, 2, 20, 1), HIGH);
        due("one more between", x.add(4, 1, 19, 1), HIGH);
        due("a like one, the first", x.add(4, 0, 0, 1), 40);
        due("a like one, the last", x.add(4, 1, 18, 1), 40);
        due("the last one goes", x.add(4, 1, 18, -2), 39);
        due("another one comes", x.add(4, 2, 20, 1), 40);
        due("and no more", x.add(4, 1, 18, 1), HIGH);
        Sentences.dueTerm(x, 4, 39, 2, 20, 1);
        Sentences.refused("one more in front of forty", y -> {
            Sentences.fill(y, 4, 1, 40);
            return 0;
        }, y -> y.add(4, 0, 0, 1), HIGH);
        Sentences.refused("one more behind forty", y -> {
            Sentences.fill(y, 4, 0, 40);
            return 0;
        }, y -> y.add(4, 2, 0, -1), HIGH);
    }

    private static void factorsStandingByAdd() {
        Sentences.says(10, "a FACTOR (.. from -10^12 to 10^12); HIGH");
        long[][] standing = {{MOST - 1, 1, 0}, {MOST - 1, 2, 1}, {MOST, 1, 1}, {MOST, -1, 0}, {MOST, MILLION, 1},
            {MOST - MILLION, MILLION, 0}, {MOST - MILLION + 1, MILLION, 1}, {MOST, -MILLION, 0}};
        for (int sign = -1; sign <= 1; sign += 2) {
            for (long[] row : standing) {
                long f = sign * row[0];
                long more = sign * row[1];
                StrandBoxes x = new StrandBoxes();
                Sentences.put(x, 2, 3, 14, 20, f);
                Sentences.dueTerm(x, 2, 0, 14, 20, f);
                due(more + " to " + f, x.add(2, 14, 20, more), row[2] == 1 ? HIGH : 1);
                Sentences.dueTerm(x, 2, 0, 14, 20, row[2] == 1 ? f : f + more);
            }
            long edge = sign * MOST;
            int one = sign;
            Sentences.refused("one beyond " + edge, x -> {
                Sentences.put(x, 2, 3, 14, 20, edge);
                return 0;
            }, x -> x.add(2, 14, 20, one), HIGH);
        }
    }

    private static void likeOnesPutTogether() {
        Sentences.says(10, "of one BOX and POWER one at most");
        StrandBoxes x = new StrandBoxes();
        due("one", x.add(0, 1, 5, 3), 1);
        due("a like one", x.add(0, 1, 5, 4), 1);
        Sentences.dueTerm(x, 0, 0, 1, 5, 7);
        due("another POWER", x.add(0, 1, 6, 4), 2);
        due("another BOX", x.add(0, 2, 5, 4), 3);
        due("another SUM", x.add(1, 1, 5, 4), 1);
        Sentences.dueTerm(x, 0, 0, 1, 5, 7);
    }

    private static void zeroLeftOut() {
        Sentences.says(10, "like ones put together, those with 0 left out");
        for (int gone = 0; gone < 3; gone++) {
            StrandBoxes x = new StrandBoxes();
            for (int b = 0; b < 3; b++) {
                x.add(0, b, b, 10 + b);
            }
            due("nearly all of it", x.add(0, gone, gone, -9 - gone), 3);
            Sentences.dueTerm(x, 0, gone, gone, gone, 1);
            due("all of it", x.add(0, gone, gone, -1), 2);
            due("behind the last", x.term(0, 2, 0), TERM_NONE);
            for (int i = 0; i < 2; i++) {
                int b = i < gone ? i : i + 1;
                Sentences.dueTerm(x, 0, i, b, b, 10 + b);
            }
            due("below 0 again", x.add(0, gone, gone, -1), 3);
            Sentences.dueTerm(x, 0, gone, gone, gone, -1);
        }
        StrandBoxes x = new StrandBoxes();
        x.add(0, 0, 0, 5);
        due("the only one", x.add(0, 0, 0, -5), 0);
        due("like none at all", x.same(0, 1), 1);
    }

    private static void termsInOrder() {
        Sentences.says(10, "TERMS are told by NUMBERS of BOXES, then POWERS");
        StrandBoxes x = new StrandBoxes();
        x.clear(0, 4);
        int[][] rows = {{104, 0}, {0, 20}, {0, 0}, {104, 20}, {52, 10}, {9, 19}, {10, 1}, {52, 9}};
        int[][] told = {{0, 0}, {0, 20}, {9, 19}, {10, 1}, {52, 9}, {52, 10}, {104, 0}, {104, 20}};
        for (int i = 0; i < 8; i++) {
            due("TERMS", x.add(0, rows[i][0], rows[i][1], 1 + rows[i][0] + rows[i][1]), i + 1);
        }
        for (int i = 0; i < 8; i++) {
            Sentences.dueTerm(x, 0, i, told[i][0], told[i][1], 1 + told[i][0] + told[i][1]);
        }
    }

    private static void addRefused() {
        Sentences.says(10, "BAD .. HIGH: nothing changes then");
        Sentences.Calls full = x -> {
            Sentences.put(x, 1, 2, 0, 20, MOST);
            Sentences.fill(x, 0, 0, 40);
            return x.clear(2, 4);
        };
        Sentences.refused("wrong SUM", full, x -> x.add(8, 0, 0, 1), BAD);
        Sentences.refused("wrong SUM", full, x -> x.add(-1, 0, 0, 1), BAD);
        Sentences.refused("wrong BOX", full, x -> x.add(0, 3, 0, 1), BAD);
        Sentences.refused("wrong BOX", full, x -> x.add(2, 105, 0, 1), BAD);
        Sentences.refused("wrong POWER", full, x -> x.add(0, 0, 21, 1), BAD);
        Sentences.refused("wrong POWER", full, x -> x.add(0, 0, -1, 1), BAD);
        Sentences.refused("wrong FACTOR", full, x -> x.add(0, 0, 0, MILLION + 1), BAD);
        Sentences.refused("FACTOR too high", full, x -> x.add(1, 0, 20, MILLION), HIGH);
        Sentences.refused("a TERM too many", full, x -> x.add(0, 2, 20, 1), HIGH);
    }

    private static void badAheadOfHighInAdd() {
        Sentences.says(10, "Of several the first: BAD, HIGH");
        StrandBoxes x = new StrandBoxes();
        Sentences.fill(x, 0, 0, 40);
        due("BOX wrong, SUM full", x.add(0, 3, 0, 1), BAD);
        due("POWER wrong, SUM full", x.add(0, 2, 21, 1), BAD);
        due("FACTOR wrong, SUM full", x.add(0, 2, 0, MILLION + 1), BAD);
        due("SUM full", x.add(0, 2, 0, MILLION), HIGH);
        Sentences.put(x, 0, 2, 1, 0, MOST);
        due("FACTOR wrong, and too high", x.add(0, 1, 0, MILLION + 1), BAD);
        due("FACTOR too high", x.add(0, 1, 0, MILLION), HIGH);
    }

    private static void howOfWork() {
        Sentences.says(11, "t and u (how = 0), t less u (1), t times u (2)");
        Sentences.range("work(0, how, 1, 2)", (x, how) -> x.work(0, how, 1, 2), 0, 2, BAD);
        StrandBoxes x = new StrandBoxes();
        x.add(1, I, 0, 7);
        x.add(2, I, 0, 3);
        due("and", x.work(0, AND, 1, 2), 1);
        Sentences.dueTerm(x, 0, 0, I, 0, 10);
        due("less", x.work(0, LESS, 1, 2), 1);
        Sentences.dueTerm(x, 0, 0, I, 0, 4);
        due("times", x.work(0, TIMES, 1, 2), 1);
        Sentences.dueTerm(x, 0, 0, I, 0, 21);
    }

    private static void unlikeStrands() {
        Sentences.says(11, "NO: t, u are of unlike STRANDS");
        for (int n = 1; n <= 4; n++) {
            for (int m = 1; m <= 4; m++) {
                for (int how = 0; how < 3; how++) {
                    int one = n;
                    int other = m;
                    int asked = how;
                    Sentences.Calls before = x -> {
                        x.clear(3, one);
                        x.add(5, I, 0, 1);
                        return x.clear(4, other);
                    };
                    if (n != m) {
                        Sentences.refused("work of " + n + ", " + m, before, x -> x.work(5, asked, 3, 4), NO);
                    } else {
                        StrandBoxes x = new StrandBoxes();
                        before.on(x);
                        due("work of " + n + ", " + m, x.work(5, how, 3, 4), 0);
                        due("s is of their STRANDS then", x.sum(5, 0), n);
                    }
                }
            }
        }
        StrandBoxes x = new StrandBoxes();
        x.clear(3, 3);
        due("s is like t alone", x.work(3, AND, 3, 2), NO);
        due("s is like u alone", x.work(3, AND, 2, 3), NO);
        due("s is unlike both", x.work(3, AND, 2, 1), 0);
    }

    private static void badAheadOfNoAheadOfHigh() {
        Sentences.says(11, "BAD; NO ..; HIGH: of several the first");
        StrandBoxes x = new StrandBoxes();
        Sentences.put(x, 0, 2, 1, 0, MOST);
        Sentences.put(x, 1, 3, 7, 0, MOST);
        due("s wrong, unlike", x.work(8, TIMES, 0, 1), BAD);
        due("how wrong, unlike", x.work(0, 3, 0, 1), BAD);
        due("t wrong", x.work(0, TIMES, 8, 1), BAD);
        due("u wrong", x.work(0, TIMES, 0, -1), BAD);
        due("s wrong, too high", x.work(-1, TIMES, 0, 0), BAD);
        due("how wrong, too high", x.work(0, -1, 0, 0), BAD);
        due("unlike, and each too high", x.work(0, TIMES, 0, 1), NO);
        due("unlike, and each too high", x.work(0, AND, 1, 0), NO);
        due("too high", x.work(0, TIMES, 0, 0), HIGH);
        due("too high", x.work(0, AND, 1, 1), HIGH);
    }

    /** One TERM of a FACTOR f is worked with one of g. */
    private static void dueWork(int how, long f, long g, long want) {
        StrandBoxes x = new StrandBoxes();
        Sentences.put(x, 0, 2, I, 3, f);
        Sentences.put(x, 1, 2, I, how == TIMES ? 4 : 3, g);
        x.add(2, S, 6, 1);
        String call = f + " " + "+-*".charAt(how) + " " + g;
        if (Math.abs(want) > MOST) {
            due(call, x.work(2, how, 0, 1), HIGH);
            Sentences.dueTerm(x, 2, 0, S, 6, 1);
            due("TERMS left by " + call, x.sum(2, 1), 1);
        } else {
            due(call, x.work(2, how, 0, 1), want == 0 ? 0 : 1);
            due("FACTOR of " + call, x.term(2, 0, 2), want == 0 ? TERM_NONE : want);
        }
        Sentences.dueTerm(x, 0, 0, I, 3, f);
        Sentences.dueTerm(x, 1, 0, I, how == TIMES ? 4 : 3, g);
    }

    private static void factorsAddedUp() {
        Sentences.says(11, "HIGH: a FACTOR would be beyond that (how 0, 1)");
        long[][] pairs = {{MOST - 1, 1}, {MOST - 1, 2}, {MOST, 1}, {MOST, -1}, {MOST, MOST}, {MOST, -MOST},
            {MOST / 2, MOST / 2}, {MOST / 2, MOST / 2 + 1}, {1, MOST}, {2, MOST - 1}, {1, MOST - 1}, {5, -5}};
        for (long[] pair : pairs) {
            for (int sign = -1; sign <= 1; sign += 2) {
                long f = sign * pair[0];
                long g = sign * pair[1];
                dueWork(AND, f, g, f + g);
                dueWork(LESS, f, g, f - g);
                dueWork(LESS, f, -g, f + g);
            }
        }
    }

    private static void factorsMultiplied() {
        Sentences.says(11, "HIGH: a FACTOR would be beyond that (how 2)");
        long[][] pairs = {{MILLION, MILLION}, {MILLION + 1, MILLION}, {MILLION, MILLION + 1}, {MILLION + 1, MILLION - 1},
            {MOST, 1}, {1, MOST}, {MOST, 2}, {2, MOST}, {MOST / 2, 2}, {MOST / 2 + 1, 2}, {2, MOST / 2 + 1},
            {333333333333L, 3}, {333333333334L, 3}, {3, 333333333334L}, {MOST - 1, 1}, {1, 1}};
        for (long[] pair : pairs) {
            for (int signs = 0; signs < 4; signs++) {
                long f = (signs & 1) == 0 ? pair[0] : -pair[0];
                long g = (signs & 2) == 0 ? pair[1] : -pair[1];
                dueWork(TIMES, f, g, f * g);
            }
        }
    }

    /** Products that, cut to 64 bits, would be within -10^12 to 10^12. */
    private static void factorsBeyondALong() {
        Sentences.says(11, "HIGH: a FACTOR would be beyond that (a wrap-around)");
        long[][] pairs = {{1L << 32, 1L << 32}, {1L << 39, 1L << 25}, {1L << 39, (1L << 25) + 1}, {1L << 32, 1L << 31},
            {MOST, MOST}, {3037000500L, 3037000500L}, {(1L << 32) + 1, (1L << 32) - 1}};
        for (long[] pair : pairs) {
            for (int signs = 0; signs < 4; signs++) {
                long f = (signs & 1) == 0 ? pair[0] : -pair[0];
                long g = (signs & 2) == 0 ? pair[1] : -pair[1];
                dueWork(TIMES, f, g, MOST + 1);
                dueWork(TIMES, g, f, MOST + 1);
            }
        }
    }

    /** At one POWER three products come: f times a million, 1, -1, in this order or the other. */
    private static void factorsOnTheWay() {
        Sentences.says(11, "on the way (TERM by TERM of the first, then of the second) a FACTOR");
        for (long f : new long[] {MILLION - 1, MILLION, -MILLION + 1, -MILLION}) {
            long one = f < 0 ? -1 : 1;
            StrandBoxes x = new StrandBoxes();
            x.add(0, I, 0, f);
            x.add(0, I, 1, one);
            x.add(0, I, 2, -one);
            x.add(1, I, 0, 1);
            x.add(1, I, 1, 1);
            x.add(1, I, 2, MILLION);
            boolean beyond = Math.abs(f) == MILLION;
            due("the high one first", x.work(2, TIMES, 0, 1), beyond ? HIGH : 5);
            due("TERMS then", x.sum(2, 1), beyond ? 0 : 5);
            due("the high one last", x.work(2, TIMES, 1, 0), 5);
            Sentences.dueTerm(x, 2, 2, I, 2, f * MILLION);
        }
        StrandBoxes x = new StrandBoxes();
        x.add(0, I, 0, MILLION);
        x.add(0, S, 0, MILLION);
        x.add(1, I, 0, MILLION);
        x.add(1, S, 0, -MILLION);
        due("10^12 and back to 0 twice", x.work(2, TIMES, 0, 1), 0);
        due("10^12 twice", x.work(2, TIMES, 0, 0), HIGH);
    }

    /** How many TERMS a BOX with a POWER, times itself with another one, makes. */
    private static void duePower(int n, int b, int one, int other, long want, int power) {
        StrandBoxes x = new StrandBoxes();
        Sentences.put(x, 0, n, b, one, 3);
        Sentences.put(x, 1, n, b, other, 5);
        x.clear(2, n);
        x.add(2, 0, 0, 9);
        due("BOX " + b + " with " + one + " times with " + other, x.work(2, TIMES, 0, 1), want);
        due("its POWER", x.term(2, 0, 1), want == HIGH ? 0 : power);
        due("its FACTOR", x.term(2, 0, 2), want == HIGH ? 9 : 15);
    }

    private static void powersMultiplied() {
        Sentences.says(11, "POWERS added, and one for each RING; HIGH: a POWER would be beyond that");
        duePower(1, 0, 10, 10, 1, 20);
        duePower(1, 0, 10, 11, HIGH, 0);
        duePower(2, I, 20, 0, 1, 20);
        duePower(2, I, 0, 20, 1, 20);
        duePower(2, I, 20, 1, HIGH, 0);
        duePower(2, I, 20, 20, HIGH, 0);
        duePower(2, E, 10, 8, 1, 19);
        duePower(2, E, 10, 9, 1, 20);
        duePower(2, E, 10, 10, HIGH, 0);
        duePower(2, E, 20, 0, HIGH, 0);
        duePower(4, 0, 9, 9, 1, 20);
        duePower(4, 0, 9, 10, HIGH, 0);
        duePower(4, 0, 19, 0, HIGH, 0);
        duePower(4, 0, 18, 0, 1, 20);
        duePower(2, S, 12, 8, 1, 20);
        duePower(2, S, 12, 9, HIGH, 0);
    }

    /** (I + S) (I - S) is 0, but a POWER is beyond ahead of that. */
    private static void powersOnTheWay() {
        Sentences.says(11, "on the way (TERM by TERM of the first, then of the second) a POWER");
        for (int power = 9; power <= 12; power++) {
            StrandBoxes x = new StrandBoxes();
            x.add(0, I, 10, 1);
            x.add(0, S, 10, 1);
            x.add(1, I, power, 1);
            x.add(1, S, power, -1);
            due("times with " + power, x.work(0, TIMES, 0, 1), power <= 10 ? 0 : HIGH);
            due("TERMS then", x.sum(0, 1), power <= 10 ? 0 : 2);
        }
        StrandBoxes x = new StrandBoxes();
        x.add(0, I, 0, 1);
        x.add(0, I, 11, 1);
        x.add(1, I, 0, 1);
        x.add(1, I, 10, 1);
        due("the last product alone is beyond", x.work(2, TIMES, 0, 1), HIGH);
        due("no TERM of it", x.sum(2, 1), 0);
    }

    private static void fortyTermsByAndAndLess() {
        Sentences.says(11, "HIGH: there would be more than 40 TERMS (how 0, 1)");
        for (int how = AND; how <= LESS; how++) {
            for (int terms = 19; terms <= 21; terms++) {
                StrandBoxes x = new StrandBoxes();
                Sentences.fill(x, 0, 0, 20);
                Sentences.fill(x, 1, 20, terms);
                x.add(2, S, 20, 8);
                due("20 with " + terms, x.work(2, how, 0, 1), terms <= 20 ? 20 + terms : HIGH);
                due("TERMS then", x.sum(2, 1), terms <= 20 ? 20 + terms : 1);
                due(terms + " with 20", x.work(2, how, 1, 0), terms <= 20 ? 20 + terms : HIGH);
            }
        }
        StrandBoxes x = new StrandBoxes();
        Sentences.fill(x, 0, 0, 40);
        due("40 and themselves", x.work(1, AND, 0, 0), 40);
        due("40 less themselves", x.work(1, LESS, 0, 0), 0);
        due("40 and none", x.work(1, AND, 0, 2), 40);
        due("none less 40", x.work(1, LESS, 2, 0), 40);
    }

    private static void fortyTermsByTimes() {
        Sentences.says(11, "HIGH: there would be more than 40 TERMS (how 2)");
        for (int terms = 12; terms <= 14; terms++) {
            StrandBoxes x = new StrandBoxes();
            for (int power = 0; power < terms; power++) {
                x.add(0, I, power, 1);
            }
            x.add(1, E, 0, 1);
            x.add(1, I, 0, 2);
            x.add(1, S, 0, 3);
            x.add(2, E, 7, 7);
            due(terms + " times 3", x.work(2, TIMES, 0, 1), terms < 14 ? 3 * terms : HIGH);
            due("TERMS then", x.sum(2, 1), terms < 14 ? 3 * terms : 1);
        }
        StrandBoxes x = new StrandBoxes();
        Sentences.fill(x, 0, 0, 40);
        x.add(1, I, 0, 2);
        due("40 times 1", x.work(2, TIMES, 0, 1), 40);
        due("1 times 40", x.work(2, TIMES, 1, 0), 40);
    }

    /** Thirteen each of I and S, and an E: it is told in the test how many TERMS stand on the way. */
    private static void termsOnTheWay() {
        Sentences.says(11, "on the way (TERM by TERM of the first, then of the second) .. more than 40 TERMS");
        for (int power = 11; power <= 14; power++) {
            StrandBoxes x = new StrandBoxes();
            x.add(0, E, 0, 1);
            x.add(0, I, 0, 1);
            x.add(0, S, 0, -1);
            x.add(1, E, power, 1);
            for (int k = 0; k < 13; k++) {
                x.add(1, I, k, 1);
                x.add(1, S, k, 1);
            }
            // E: 13 of E and what E E makes; I: 26 and, behind the thirteen, one more of E
            int most = 39 + (power + 1 > 12 ? 1 : 0) + (power > 12 ? 1 : 0);
            int left = power + 1 > 12 ? 14 : 13;
            due("40 at most, POWER " + power, x.work(2, TIMES, 0, 1), most > 40 ? HIGH : left);
            due("TERMS then", x.sum(2, 1), most > 40 ? 0 : left);
            due("the other way round", x.work(2, TIMES, 1, 0), left);
        }
        StrandBoxes x = new StrandBoxes();
        Sentences.fill(x, 0, 1, 40);
        x.add(1, E, 0, 1);
        x.add(1, E, 1, 2);
        due("one comes ahead of one that goes", x.work(2, LESS, 0, 1), HIGH);
        x.clear(1, 2);
        x.add(1, E, 1, 2);
        x.add(1, S, 20, 1);
        due("one goes ahead of one that comes", x.work(2, LESS, 0, 1), 40);
        Sentences.dueTerm(x, 2, 0, E, 2, 3);
        Sentences.dueTerm(x, 2, 39, S, 20, -1);
    }

    private static void workWithEmptySums() {
        Sentences.says(11, "TERMS (none at first)");
        StrandBoxes x = new StrandBoxes();
        x.add(0, S, 20, -3);
        for (int how = 0; how < 3; how++) {
            due("none with none", x.work(2, how, 1, 1), 0);
        }
        due("some and none", x.work(2, AND, 0, 1), 1);
        Sentences.dueTerm(x, 2, 0, S, 20, -3);
        due("none and some", x.work(2, AND, 1, 0), 1);
        Sentences.dueTerm(x, 2, 0, S, 20, -3);
        due("some less none", x.work(2, LESS, 0, 1), 1);
        Sentences.dueTerm(x, 2, 0, S, 20, -3);
        due("none less some", x.work(2, LESS, 1, 0), 1);
        Sentences.dueTerm(x, 2, 0, S, 20, 3);
        due("some times none", x.work(2, TIMES, 0, 1), 0);
        due("it has none then", x.sum(2, 1), 0);
        due("none times some", x.work(2, TIMES, 1, 0), 0);
    }

    private static void workIntoItself() {
        Sentences.says(11, "SUM s becomes t .. u (s is t, u, both)");
        for (int how = 0; how < 3; how++) {
            for (int s = 0; s < 3; s++) {
                StrandBoxes x = new StrandBoxes();
                StrandBoxes y = new StrandBoxes();
                for (StrandBoxes each : new StrandBoxes[] {x, y}) {
                    each.clear(0, 3);
                    each.clear(1, 3);
                    each.add(0, 2, 1, 5);
                    each.add(0, 9, 0, -2);
                    each.add(1, 6, 0, 3);
                    each.add(1, 2, 1, 4);
                }
                y.work(5, how, 0, 1);
                due("TERMS", x.work(s, how, 0, 1), y.sum(5, 1));
                for (int i = 0; i < y.sum(5, 1); i++) {
                    Sentences.dueTerm(x, s, i, (int) y.term(5, i, 0), (int) y.term(5, i, 1), y.term(5, i, 2));
                }
                due("t stays", x.sum(0, 1), s == 0 ? y.sum(5, 1) : 2);
                due("u stays", x.sum(1, 1), s == 1 ? y.sum(5, 1) : 2);
            }
        }
        StrandBoxes x = new StrandBoxes();
        x.add(0, I, 2, 3);
        due("squared into itself", x.work(0, TIMES, 0, 0), 1);
        Sentences.dueTerm(x, 0, 0, I, 4, 9);
        due("doubled into itself", x.work(0, AND, 0, 0), 1);
        Sentences.dueTerm(x, 0, 0, I, 4, 18);
        due("less itself into itself", x.work(0, LESS, 0, 0), 0);
    }

    private static void workRefused() {
        Sentences.says(11, "BAD; NO; HIGH: nothing changes then");
        Sentences.Calls before = x -> {
            Sentences.fill(x, 0, 0, 40);
            Sentences.fill(x, 1, 2, 21);
            Sentences.put(x, 2, 2, S, 20, MOST);
            x.add(3, E, 0, 1);
            x.clear(4, 3);
            return x.add(4, 14, 20, 4);
        };
        for (int how = -1; how <= 3; how++) {
            int asked = how;
            Sentences.refused("wrong s", before, x -> x.work(8, asked, 0, 0), BAD);
            Sentences.refused("wrong t", before, x -> x.work(0, asked, -1, 0), BAD);
            Sentences.refused("wrong u", before, x -> x.work(0, asked, 0, 8), BAD);
            if (how >= 0 && how <= 2) {
                Sentences.refused("unlike, into t", before, x -> x.work(0, asked, 0, 4), NO);
                Sentences.refused("unlike, into u", before, x -> x.work(4, asked, 0, 4), NO);
                Sentences.refused("unlike, into another", before, x -> x.work(3, asked, 4, 0), NO);
            }
        }
        Sentences.refused("wrong how", before, x -> x.work(0, 3, 1, 1), BAD);
        Sentences.refused("wrong how", before, x -> x.work(0, -1, 1, 1), BAD);
        for (int s = 0; s < 5; s++) {
            int into = s;
            Sentences.refused("too many TERMS into " + s, before, x -> x.work(into, AND, 0, 2), HIGH);
            Sentences.refused("too many TERMS into " + s, before, x -> x.work(into, LESS, 2, 0), HIGH);
            Sentences.refused("FACTOR too high into " + s, before, x -> x.work(into, AND, 2, 2), HIGH);
            Sentences.refused("POWER too high into " + s, before, x -> x.work(into, TIMES, 2, 2), HIGH);
            Sentences.refused("POWER too high among others into " + s, before, x -> x.work(into, TIMES, 1, 1), HIGH);
            Sentences.refused("POWER too high into " + s, before, x -> x.work(into, TIMES, 4, 4), HIGH);
        }
    }

    private static void whatOfASum() {
        Sentences.says(12, "Of a SUM: 0 STRANDS, 1 TERMS. BAD.");
        Sentences.range("sum(0, what)", (x, what) -> x.sum(0, what), 0, 1, BAD);
        Sentences.range("sum(7, what)", (x, what) -> x.sum(7, what), 0, 1, BAD);
        for (int terms : new int[] {0, 1, 39, 40}) {
            StrandBoxes x = new StrandBoxes();
            Sentences.fill(x, 7, 0, terms);
            due("TERMS", x.sum(7, 1), terms);
            due("STRANDS", x.sum(7, 0), 2);
        }
        for (int n = 1; n <= 4; n++) {
            StrandBoxes x = new StrandBoxes();
            x.clear(7, n);
            due("STRANDS", x.sum(7, 0), n);
        }
        due("both wrong", new StrandBoxes().sum(8, 2), BAD);
    }

    private static void whatOfATerm() {
        Sentences.says(13, "Of TERM i of a SUM: 0 BOX, 1 POWER, 2 FACTOR. BAD -1000000000000001");
        Sentences.Calls before = x -> x.add(0, S, 20, -1);
        for (int what : new int[] {MIN, -2, -1, 3, 4, MAX}) {
            Sentences.refused("what " + what, before, x -> x.term(0, 0, what), TERM_BAD);
            Sentences.refused("what " + what + ", behind", before, x -> x.term(0, 1, what), TERM_BAD);
            Sentences.refused("what " + what + ", below", before, x -> x.term(0, -1, what), TERM_BAD);
        }
        StrandBoxes x = new StrandBoxes();
        before.on(x);
        Sentences.dueTerm(x, 0, 0, S, 20, -1);
        Sentences.put(x, 1, 4, 104, 0, -MOST);
        Sentences.dueTerm(x, 1, 0, 104, 0, -MOST);
    }

    private static void belowTheFirstTerm() {
        Sentences.says(13, "BAD (also i below 0) -1000000000000001");
        for (int terms : new int[] {0, 1, 40}) {
            StrandBoxes x = new StrandBoxes();
            Sentences.fill(x, 3, 0, terms);
            for (int what = 0; what < 3; what++) {
                due("i -1", x.term(3, -1, what), TERM_BAD);
                due("i -2", x.term(3, -2, what), TERM_BAD);
                due("i MIN", x.term(3, MIN, what), TERM_BAD);
                due("wrong SUM", x.term(8, 0, what), TERM_BAD);
                due("wrong SUM, far behind", x.term(-1, 99, what), TERM_BAD);
            }
            due("i 0", x.term(3, 0, 2), terms == 0 ? TERM_NONE : 1);
        }
    }

    private static void behindTheLastTerm() {
        Sentences.says(13, "NONE answers -1000000000000004");
        for (int terms : new int[] {0, 1, 2, 39, 40}) {
            StrandBoxes x = new StrandBoxes();
            Sentences.fill(x, 3, 0, 40);
            Sentences.fill(x, 3, 0, terms);
            for (int what = 0; what < 3; what++) {
                due("behind " + terms, x.term(3, terms, what), TERM_NONE);
                due("one more", x.term(3, terms + 1, what), TERM_NONE);
                due("i 40", x.term(3, 40, what), TERM_NONE);
                due("i MAX", x.term(3, MAX, what), TERM_NONE);
            }
            if (terms > 0) {
                int last = terms - 1;
                Sentences.dueTerm(x, 3, last, last / 21, last % 21, terms);
            }
        }
    }

    private static void sameOrNot() {
        Sentences.says(14, "1: two SUMS are of like STRANDS and have like TERMS, 0. BAD.");
        for (int terms : new int[] {1, 2, 39, 40}) {
            StrandBoxes x = new StrandBoxes();
            Sentences.fill(x, 0, 0, terms);
            Sentences.fill(x, 1, 0, terms);
            int last = terms - 1;
            due("alike", x.same(0, 1), 1);
            due("itself", x.same(1, 1), 1);
            x.add(1, last / 21, last % 21, 1);
            due("the last FACTOR", x.same(0, 1), 0);
            x.add(1, last / 21, last % 21, -1);
            due("alike again", x.same(1, 0), 1);
            x.add(1, last / 21, last % 21, -terms);
            due("the last TERM gone", x.same(0, 1), 0);
            due("the last TERM gone", x.same(1, 0), 0);
            x.add(1, last / 21, last % 21 + 1, terms);
            due("the last POWER", x.same(0, 1), 0);
            x.add(1, last / 21, last % 21 + 1, -terms);
            x.add(1, S, last % 21, terms);
            due("the last BOX", x.same(0, 1), 0);
        }
        StrandBoxes x = new StrandBoxes();
        due("none and none", x.same(0, 7), 1);
        x.clear(7, 3);
        due("none and none of other STRANDS", x.same(0, 7), 0);
        x.add(0, 0, 0, 1);
        x.add(7, 0, 0, 1);
        due("like TERMS of other STRANDS", x.same(7, 0), 0);
        due("both wrong alike", x.same(8, 8), BAD);
    }

    private static void closedPowers() {
        Sentences.says(15, "the whole at a power (0 to 24). BAD: 0.");
        StrandBoxes x = new StrandBoxes();
        x.clear(0, 4);
        x.add(0, 52, 20, 6);
        x.add(0, 52, 19, 5);
        due("24", x.closed(0, 24), 6);
        due("23", x.closed(0, 23), 5);
        due("22", x.closed(0, 22), 0);
        due("0", x.closed(0, 0), 0);
        for (int power : new int[] {MIN, -2, -1, 25, 26, MAX}) {
            due("power " + power, x.closed(0, power), 0);
        }
        for (int s : new int[] {MIN, -1, 8, MAX}) {
            due("SUM " + s, x.closed(s, 24), 0);
        }
    }

    private static void closedHighestAndLowest() {
        Sentences.says(15, "the letter to the POWER and as many as there are RINGS");
        for (int n = 1; n <= 4; n++) {
            StrandBoxes x = new StrandBoxes();
            int straight = x.plain(n, 0);
            x.clear(0, n);
            x.add(0, straight, 20, 3);
            x.add(0, straight, 0, 2);
            for (int power = 0; power <= 24; power++) {
                int want = power == n ? 2 : power == 20 + n ? 3 : 0;
                due("n " + n + ", power " + power, x.closed(0, power), want);
            }
        }
        StrandBoxes x = new StrandBoxes();
        x.add(1, S, 0, -8);
        due("one RING, the lowest", x.closed(1, 1), -8);
        due("none below it", x.closed(1, 0), 0);
        due("none of an empty SUM", x.closed(2, 2), 0);
    }

    private static void closedWholes() {
        Sentences.says(15, "times the FACTOR; added up by POWERS");
        for (int sign = -1; sign <= 1; sign += 2) {
            StrandBoxes x = new StrandBoxes();
            x.clear(0, 4);
            for (int b = 0; b < 40; b++) {
                x.add(0, b, 20 - x.about(4, b, 3), MILLION);
            }
            Sentences.put(x, 1, 4, 52, 0, sign * MILLION);
            due("forty of 10^12", x.work(0, TIMES, 0, 1), 40);
            due("added up", x.closed(0, 20), sign * 40 * MOST);
            due("nothing beneath", x.closed(0, 19), 0);
            due("nothing above", x.closed(0, 21), 0);
        }
        StrandBoxes x = new StrandBoxes();
        x.add(0, I, 0, 7);
        x.add(0, E, 1, -7);
        x.add(0, S, 1, 2);
        due("added up to what is left", x.closed(0, 2), 2);
        x.add(0, S, 1, -2);
        due("added up to 0", x.closed(0, 2), 0);
    }

    private static void askingChangesNothing() {
        Sentences.says(12, "nothing changes then (calls that ask)");
        Sentences.Calls before = x -> {
            Sentences.fill(x, 0, 0, 40);
            x.clear(3, 4);
            x.row(3);
            x.cross(2);
            return x.add(3, 104, 20, -9);
        };
        Sentences.unchanged("sum", before, x -> x.sum(0, 0) + x.sum(0, 2) + x.sum(8, 0) + x.sum(3, 1));
        Sentences.unchanged("term", before, x -> x.term(0, 39, 2) + x.term(0, 40, 0) + x.term(0, -1, 0));
        Sentences.unchanged("same", before, x -> x.same(0, 3) + x.same(0, 8) + x.same(0, 0));
        Sentences.unchanged("closed", before, x -> x.closed(0, 5) + x.closed(0, 25) + x.closed(8, 0));
    }
}
