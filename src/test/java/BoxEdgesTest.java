/** The boundaries that the document names for boxes (promises 2 to 8), a test for each sentence. */
public final class BoxEdgesTest {
    private static final int BAD = Sentences.BAD;
    private static final int NONE = Sentences.NONE;
    private static final int MIN = Sentences.MIN;
    private static final int MAX = Sentences.MAX;
    /** The last NUMBER of a BOX, by STRANDS. */
    private static final int[] LAST = {-1, 0, 2, 14, 104};

    private static void due(String call, long got, long want) {
        Sentences.due(call, got, want);
    }

    public static void main(String[] args) {
        strandsOfManyAndBox();
        strandsOfCallsWithABox();
        numbersOfBoxes();
        numbersInOrder();
        planeOrAll();
        planeBoxes();
        pointsOfABox();
        eachWithAnotherOne();
        whatAboutABox();
        throughFromNoneToAll();
        upsideDownAndBack();
        ringsWhenClosed();
        lettersOfALeastSpelling();
        ringsBetweenStackedBoxes();
        stackedNumbers();
        pairsOfAllPoints();
        aPointTwice();
        aPointBeyond();
        eightPointsAtMost();
        nothingAboveThePairs();
        lettersOfPlainBoxes();
        oneStrandHasNoLetters();
        lettersOfAWord();
        behindAWord();
        shortestThenLeast();
        everyBoxHasASpelling();
        boxCallsChangeNothing();
        Sentences.end();
    }

    private static void strandsOfManyAndBox() {
        Sentences.says(2, "A BOX of n STRANDS (n from 1 to 4)");
        Sentences.range("many(n, 0)", (x, n) -> x.many(n, 0), 1, 4, BAD);
        Sentences.range("many(n, 1)", (x, n) -> x.many(n, 1), 1, 4, BAD);
        Sentences.range("plain(n, 0)", (x, n) -> x.plain(n, 0), 1, 4, BAD);
        long[] straight = {0, 0x10, 0x3120, 0x524130, 0x73625140, 0x9483726150L};
        Sentences.range("box(n, ..)", (x, n) -> x.box(n, straight[n < 0 || n > 5 ? 0 : n]), 1, 4, BAD);
    }

    private static void strandsOfCallsWithABox() {
        Sentences.says(3, "A BOX of n STRANDS (n from 1 to 4)");
        Sentences.range("partner(n, 0, 0)", (x, n) -> x.partner(n, 0, 0), 1, 4, BAD);
        Sentences.range("about(n, 0, 3)", (x, n) -> x.about(n, 0, 3), 1, 4, BAD);
        Sentences.range("stack(n, 0, 0)", (x, n) -> x.stack(n, 0, 0), 1, 4, BAD);
        Sentences.range("word(n, 0, 0)", (x, n) -> x.word(n, 0, 0), 1, 4, BAD);
    }

    private static void numbersOfBoxes() {
        Sentences.says(3, "BOXES of n STRANDS have NUMBERS 0, 1, ..");
        for (int n = 1; n <= 4; n++) {
            int strands = n;
            int last = LAST[n];
            due("many(" + n + ", 0)", new StrandBoxes().many(n, 0), last + 1);
            Sentences.range("partner(n, b, 0)", (x, b) -> x.partner(strands, b, 0), 0, last, BAD);
            Sentences.range("about(n, b, 4)", (x, b) -> x.about(strands, b, 4), 0, last, BAD);
            Sentences.range("stack(n, x, 0)", (x, b) -> x.stack(strands, b, 0), 0, last, BAD);
            Sentences.range("stack(n, 0, y)", (x, b) -> x.stack(strands, 0, b), 0, last, BAD);
            Sentences.range("word(n, b, 0)", (x, b) -> x.word(strands, b, 0), 0, last, BAD);
        }
    }

    private static void numbersInOrder() {
        Sentences.says(3, "of two BOXES the one is first whose partner of POINT 0 is less; if alike, ..");
        for (int n = 2; n <= 4; n++) {
            for (int b = 1; b <= LAST[n]; b++) {
                StrandBoxes x = new StrandBoxes();
                int p = 0;
                while (p < 2 * n - 1 && x.partner(n, b - 1, p) == x.partner(n, b, p)) {
                    p++;
                }
                due("BOX " + b + " behind " + (b - 1), x.partner(n, b, p) > x.partner(n, b - 1, p) ? 1 : 0, 1);
            }
        }
        StrandBoxes x = new StrandBoxes();
        due("partner of 0 in the first", x.partner(4, 0, 0), 1);
        due("partner of 0 in the last of its like", x.partner(4, 14, 0), 1);
        due("partner of 0 in the next one", x.partner(4, 15, 0), 2);
        due("partner of 0 in the last but 15", x.partner(4, 89, 0), 6);
        due("partner of 0 in the last 15", x.partner(4, 90, 0), 7);
        due("partner of 0 in the last", x.partner(4, 104, 0), 7);
    }

    private static void planeOrAll() {
        Sentences.says(2, "(plane = 0), PLANE ones (1). BAD.");
        for (int n = 1; n <= 4; n++) {
            int strands = n;
            Sentences.range("many(n, plane)", (x, plane) -> x.many(strands, plane), 0, 1, BAD);
        }
        StrandBoxes x = new StrandBoxes();
        due("many(0, 2), both wrong", x.many(0, 2), BAD);
        due("many(1, 1), alike for one strand", x.many(1, 1), 1);
        due("many(2, 1), one less", x.many(2, 1), 2);
    }

    private static void planeBoxes() {
        Sentences.says(4, "between the POINTS of a pair there are none, or both, of any other one");
        StrandBoxes x = new StrandBoxes();
        due("none between", x.about(2, x.box(2, 0x3210), 0), 1);
        due("both between", x.about(2, x.box(2, 0x3120), 0), 1);
        due("one between", x.about(2, x.box(2, 0x2130), 0), 0);
        due("nested above and beneath", x.about(4, x.box(4, 0x65742130), 0), 1);
        due("crossing above alone", x.about(4, x.box(4, 0x65743120), 0), 0);
        due("crossing beneath alone", x.about(4, x.box(4, 0x75642130), 0), 0);
        due("round the right side", x.about(3, x.box(3, 0x435210), 0), 1);
        due("round the left side", x.about(3, x.box(3, 0x542130), 0), 1);
        for (int n = 1; n <= 4; n++) {
            int plane = 0;
            for (int b = 0; b <= LAST[n]; b++) {
                plane += x.about(n, b, 0);
            }
            due("PLANE ones of " + n, x.many(n, 1), plane);
            x = new StrandBoxes();
        }
    }

    private static void pointsOfABox() {
        Sentences.says(3, "pairs 2 n POINTS: 0 to n - 1 above, n to 2 n - 1 beneath");
        for (int n = 1; n <= 4; n++) {
            int strands = n;
            for (int b : new int[] {0, LAST[n]}) {
                Sentences.range("partner(n, b, point)", (x, p) -> x.partner(strands, b, p), 0, 2 * n - 1, BAD);
            }
        }
    }

    private static void eachWithAnotherOne() {
        Sentences.says(3, "each with another one");
        for (int n = 1; n <= 4; n++) {
            for (int b = 0; b <= LAST[n]; b++) {
                StrandBoxes x = new StrandBoxes();
                for (int p = 0; p < 2 * n; p++) {
                    int q = x.partner(n, b, p);
                    due("partner's partner", x.partner(n, b, q), p);
                    due("another one", q == p ? 1 : 0, 0);
                }
            }
        }
    }

    private static void whatAboutABox() {
        Sentences.says(4, "Of a BOX: 0 .., 1 .., 2 .., 3 .., 4 .. BAD.");
        for (int n = 1; n <= 4; n++) {
            int strands = n;
            Sentences.range("about(n, b, what)", (x, what) -> x.about(strands, LAST[strands], what), 0, 4, BAD);
        }
        due("about(0, 0, 5), both wrong", new StrandBoxes().about(0, 0, 5), BAD);
    }

    private static void throughFromNoneToAll() {
        Sentences.says(4, "THROUGH is how many pairs of a BOX have a POINT above and one beneath");
        StrandBoxes x = new StrandBoxes();
        for (int n = 1; n <= 4; n++) {
            due("all straight", x.about(n, x.plain(n, 0), 1), n);
            due("the last one", x.about(n, LAST[n], 1), n);
            if (n > 1) {
                due("E 1", x.about(n, x.plain(n, 1), 1), n - 2);
                due("S 1", x.about(n, x.plain(n, 11), 1), n);
            }
        }
        due("none of four", x.about(4, 0, 1), 0);
        due("one of three", x.about(3, 0, 1), 1);
    }

    private static void upsideDownAndBack() {
        Sentences.says(4, "upside down (POINTS above and beneath change places)");
        StrandBoxes x = new StrandBoxes();
        due("one strand", x.about(1, 0, 2), 0);
        due("E 1 E 2 is E 2 E 1", x.about(3, x.stack(3, 2, 6), 2), x.stack(3, 6, 2));
        for (int n = 1; n <= 4; n++) {
            due("all straight stays", x.about(n, x.plain(n, 0), 2), x.plain(n, 0));
            for (int b = 0; b <= LAST[n]; b++) {
                due("and back", x.about(n, x.about(n, b, 2), 2), b);
            }
        }
        x = new StrandBoxes();
        for (int p = 0; p < 8; p++) {
            int q = x.partner(4, 37, p);
            due("point by point", x.partner(4, x.about(4, 37, 2), (p + 4) % 8), (q + 4) % 8);
        }
    }

    private static void ringsWhenClosed() {
        Sentences.says(4, "3 RINGS when it is CLOSED");
        StrandBoxes x = new StrandBoxes();
        for (int n = 1; n <= 4; n++) {
            due("as many as strands", x.about(n, x.plain(n, 0), 3), n);
        }
        due("one of four", x.about(4, x.box(4, 0x43726150L), 3), 1);
        due("one of E 1 E 2", x.about(3, 0, 3), 1);
        due("two of E 1 E 3", x.about(4, 0, 3), 2);
        for (int b = 0; b <= LAST[4]; b++) {
            int rings = x.about(4, b, 3);
            due("from 1 to 4", rings >= 1 && rings <= 4 ? 1 : 0, 1);
            due("four for all straight alone", rings == 4 ? 1 : 0, b == x.plain(4, 0) ? 1 : 0);
        }
    }

    private static void lettersOfALeastSpelling() {
        Sentences.says(4, "4 letters of its LEAST SPELLING");
        StrandBoxes x = new StrandBoxes();
        int[] most = {-1, 0, 1, 3, 6};
        for (int n = 1; n <= 4; n++) {
            int longest = 0;
            for (int b = 0; b <= LAST[n]; b++) {
                longest = Math.max(longest, x.about(n, b, 4));
            }
            due("none for all straight", x.about(n, x.plain(n, 0), 4), 0);
            due("the most of " + n, longest, most[n]);
            due("the most of " + n + " has the last one", x.about(n, LAST[n], 4), most[n]);
        }
    }

    private static void ringsBetweenStackedBoxes() {
        Sentences.says(5, "the BOX; 1000 more for each RING");
        StrandBoxes x = new StrandBoxes();
        due("one strand, no ring", x.stack(1, 0, 0), 0);
        due("two strands, one ring", x.stack(2, 0, 0), 1000);
        due("two strands, no ring", x.stack(2, 0, 1), 0);
        due("three strands, one ring", x.stack(3, 2, 2), 1002);
        due("three strands, no ring", x.stack(3, 2, 6), 0);
        due("four strands, two rings", x.stack(4, 0, 0), 2000);
        int nested = x.box(4, 0x65742130);
        due("four strands, two rings in one another", x.stack(4, nested, nested), 2000 + nested);
        due("four strands, one ring of four pairs", x.stack(4, 0, nested), 1000 + x.box(4, 0x65743210));
        due("four strands, one ring", x.stack(4, x.plain(4, 1), x.plain(4, 1)), 1000 + x.plain(4, 1));
        due("four strands, the last box twice", x.stack(4, 104, 104), x.plain(4, 0));
    }

    private static void stackedNumbers() {
        Sentences.says(5, "x STACKED above y: .. BAD.");
        StrandBoxes x = new StrandBoxes();
        for (int n = 1; n <= 4; n++) {
            due("x of one more", x.stack(n, LAST[n] + 1, LAST[n]), BAD);
            due("y of one more", x.stack(n, LAST[n], LAST[n] + 1), BAD);
            due("both of one more", x.stack(n, LAST[n] + 1, LAST[n] + 1), BAD);
            due("neither", x.stack(n, LAST[n], LAST[n]), x.plain(n, 0));
            due("x with rings told", x.stack(n, 1000, 0), BAD);
            due("y with rings told", x.stack(n, 0, 1000), BAD);
            due("all straight above", x.stack(n, x.plain(n, 0), LAST[n]), LAST[n]);
            due("all straight beneath", x.stack(n, LAST[n], x.plain(n, 0)), LAST[n]);
        }
    }

    private static void pairsOfAllPoints() {
        Sentences.says(6, "BAD: they are not n pairs of all POINTS");
        StrandBoxes x = new StrandBoxes();
        due("told", x.box(2, 0x2130), 2);
        due("a pair turned", x.box(2, 0x1230), 2);
        due("pairs in other order", x.box(2, 0x3021), 2);
        due("a pair too few", x.box(2, 0x30), BAD);
        due("a pair too many", x.box(2, 0x542130), BAD);
        due("none", x.box(2, 0), BAD);
        due("POINT 0 on top, one strand", x.box(1, 0x1), 0);
        due("POINT 0 on top", x.box(2, 0x213), 1);
        due("nothing on top, where POINT 0 is not due", x.box(2, 0x210), BAD);
        due("the last pair is 0 and 1", x.box(2, 0x0132), 0);
        due("pairs of three for four", x.box(4, 0x524130), BAD);
        due("pairs of four for three", x.box(3, 0x73625140), BAD);
        due("pairs of two for one", x.box(1, 0x3120), BAD);
    }

    private static void aPointTwice() {
        Sentences.says(6, "n pairs of all POINTS (each with another one)");
        StrandBoxes x = new StrandBoxes();
        due("in one pair, one strand", x.box(1, 0x11), BAD);
        due("in one pair, the first", x.box(2, 0x3200), BAD);
        due("in one pair, the last", x.box(2, 0x3310), BAD);
        due("in two pairs", x.box(2, 0x2010), BAD);
        due("in two pairs, the other way", x.box(2, 0x0210), BAD);
        due("the same pair twice", x.box(2, 0x1010), BAD);
        due("in the last pair of four", x.box(4, 0x63543210), BAD);
        due("in the first and the last pair of four", x.box(4, 0x07543217), BAD);
        due("none twice", x.box(4, 0x06543217), x.box(4, 0x60713254));
    }

    private static void aPointBeyond() {
        Sentences.says(6, "POINTS 0 to 2 n - 1");
        StrandBoxes x = new StrandBoxes();
        due("one strand, point 1", x.box(1, 0x10), 0);
        due("one strand, point 2", x.box(1, 0x20), BAD);
        due("one strand, point 15", x.box(1, 0xF0), BAD);
        due("two strands, point 3", x.box(2, 0x3210), 0);
        due("two strands, point 4", x.box(2, 0x4210), BAD);
        due("three strands, point 5", x.box(3, 0x543210), 0);
        due("three strands, point 6", x.box(3, 0x643210), BAD);
        due("four strands, point 7", x.box(4, 0x76543210), 0);
        due("four strands, point 8", x.box(4, 0x86543210L), BAD);
        due("four strands, point 15", x.box(4, 0xF6543210L), BAD);
        due("point 8 is not point 0", x.box(4, 0x76543218), BAD);
    }

    private static void eightPointsAtMost() {
        Sentences.says(6, "eight POINTS at most, four bits each in pairs, the lowest first");
        StrandBoxes x = new StrandBoxes();
        due("the first", x.box(4, 0x76543210), 0);
        due("the last", x.box(4, 0x43526170), 104);
        due("the first, told backwards", x.box(4, 0x01234567), 0);
        due("ten", x.box(4, 0x9876543210L), BAD);
        due("ten of five strands", x.box(5, 0x9876543210L), BAD);
        due("none of no strand", x.box(0, 0), BAD);
        for (int b = 0; b <= LAST[4]; b++) {
            StrandBoxes y = new StrandBoxes();
            long pairs = 0;
            for (int p = 7; p >= 0; p--) {
                int q = y.partner(4, b, p);
                pairs = p < q ? pairs << 8 | (long) q << 4 | p : pairs;
            }
            due("box of the partners of " + b, y.box(4, pairs), b);
        }
    }

    private static void nothingAboveThePairs() {
        Sentences.says(6, "(what is above them must be 0)");
        long[] straight = {0, 0x10, 0x3120, 0x524130, 0x73625140};
        for (int n = 1; n <= 4; n++) {
            StrandBoxes x = new StrandBoxes();
            due("nothing above", x.box(n, straight[n]), x.plain(n, 0));
            for (int bit = 8 * n; bit < 64; bit++) {
                due("bit " + bit + " above " + n, x.box(n, straight[n] | 1L << bit), BAD);
            }
            due("all above", x.box(n, straight[n] | -1L << (8 * n)), BAD);
        }
        StrandBoxes x = new StrandBoxes();
        due("all bits", x.box(4, -1), BAD);
        due("the lowest long", x.box(4, Long.MIN_VALUE), BAD);
        due("the highest long", x.box(4, Long.MAX_VALUE), BAD);
    }

    private static void lettersOfPlainBoxes() {
        Sentences.says(7, "letters 1 to n - 1 (E), 11 to 10 + n - 1 (S); 0 ALL STRAIGHT");
        for (int n = 1; n <= 4; n++) {
            StrandBoxes x = new StrandBoxes();
            for (int letter = -30; letter <= 60; letter++) {
                boolean good = letter == 0 || letter >= 1 && letter <= n - 1 || letter >= 11 && letter <= 9 + n;
                due("plain(" + n + ", " + letter + ") is one", x.plain(n, letter) == BAD ? 0 : 1, good ? 1 : 0);
            }
            for (int letter : new int[] {MIN, MIN + 11, MAX - 11, MAX}) {
                due("plain(" + n + ", " + letter + ")", x.plain(n, letter), BAD);
            }
        }
        StrandBoxes x = new StrandBoxes();
        due("E of the last two", x.plain(4, 3), x.box(4, 0x76325140));
        due("S of the last two", x.plain(4, 13), x.box(4, 0x63725140));
        due("E of the first two", x.plain(4, 1), x.box(4, 0x73625410));
        due("S of the first two", x.plain(4, 11), x.box(4, 0x73624150));
    }

    private static void oneStrandHasNoLetters() {
        Sentences.says(7, "E i (1 to n - 1), for one strand none");
        StrandBoxes x = new StrandBoxes();
        due("all straight", x.plain(1, 0), 0);
        due("E 1", x.plain(1, 1), BAD);
        due("S 1", x.plain(1, 11), BAD);
        due("S 0", x.plain(1, 10), BAD);
        due("its least spelling is empty", x.word(1, 0, 0), NONE);
        due("and has no letters", x.about(1, 0, 4), 0);
    }

    private static void lettersOfAWord() {
        Sentences.says(8, "BAD: also i below 0");
        for (int n = 1; n <= 4; n++) {
            int strands = n;
            for (int i : new int[] {MIN, -2, -1}) {
                due("word(n, last, " + i + ")", new StrandBoxes().word(n, LAST[n], i), BAD);
                due("all straight", new StrandBoxes().word(n, LAST[n] / 2, i), BAD);
                Sentences.unchanged("word", x -> 0, x -> x.word(strands, 0, i));
            }
        }
        StrandBoxes x = new StrandBoxes();
        due("i 0", x.word(4, 104, 0), 11);
        due("BAD ahead of NONE: b", x.word(4, 105, 99), BAD);
        due("BAD ahead of NONE: n", x.word(5, 0, 99), BAD);
    }

    private static void behindAWord() {
        Sentences.says(8, "NONE behind it");
        for (int n = 1; n <= 4; n++) {
            for (int b = 0; b <= LAST[n]; b++) {
                StrandBoxes x = new StrandBoxes();
                int length = x.about(n, b, 4);
                if (length > 0) {
                    due("the last letter is one", x.word(n, b, length - 1) > 0 ? 1 : 0, 1);
                }
                due("behind", x.word(n, b, length), NONE);
                due("one more", x.word(n, b, length + 1), NONE);
                due("far behind", x.word(n, b, MAX), NONE);
            }
        }
        StrandBoxes x = new StrandBoxes();
        due("the sixth letter", x.word(4, 104, 5), 11);
        due("no seventh", x.word(4, 104, 6), NONE);
    }

    private static void shortestThenLeast() {
        Sentences.says(8, "the shortest; of these the one whose first letter is least, then the next one");
        StrandBoxes x = new StrandBoxes();
        int both = x.stack(4, x.plain(4, 3), x.plain(4, 1));
        due("1 3, not 3 1", x.word(4, both, 0), 1);
        due("1 3, not 3 1", x.word(4, both, 1), 3);
        int turned = x.stack(3, x.stack(3, x.plain(3, 12), x.plain(3, 11)), x.plain(3, 12));
        due("11 12 11, not 12 11 12", x.word(3, turned, 0), 11);
        due("11 12 11, not 12 11 12", x.word(3, turned, 1), 12);
        due("11 12 11, not 12 11 12", x.word(3, turned, 2), 11);
        int mixed = x.stack(4, x.plain(4, 13), x.plain(4, 1));
        due("1 13, not 13 1", x.word(4, mixed, 0), 1);
        due("1 13, not 13 1", x.word(4, mixed, 1), 13);
        due("E 1 alone, not 1 11", x.about(3, x.stack(3, x.plain(3, 1), x.plain(3, 11)), 4), 1);
        due("E before S as first letters", x.word(3, x.stack(3, 2, 6), 0), 1);
    }

    private static void everyBoxHasASpelling() {
        Sentences.says(8, "(none: ALL STRAIGHT) .. without RINGS .. (Every BOX has one.)");
        for (int n = 1; n <= 4; n++) {
            for (int b = 0; b <= LAST[n]; b++) {
                StrandBoxes x = new StrandBoxes();
                int made = x.plain(n, 0);
                for (int i = 0; i < x.about(n, b, 4); i++) {
                    made = x.stack(n, made, x.plain(n, x.word(n, b, i)));
                }
                due("what the word of " + b + " makes", made, b);
            }
        }
    }

    private static void boxCallsChangeNothing() {
        Sentences.says(3, "nothing changes then");
        Sentences.Calls before = x -> {
            x.clear(3, 4);
            x.add(3, 104, 20, -7);
            x.add(0, 2, 1, 5);
            x.row(3);
            x.cross(-2);
            return x.cross(1);
        };
        Sentences.unchanged("many", before, x -> x.many(4, 1) + x.many(9, 0) + x.many(1, 7));
        Sentences.unchanged("partner", before, x -> x.partner(4, 104, 7) + x.partner(4, 105, 8));
        Sentences.unchanged("about", before, x -> x.about(4, 3, 2) + x.about(4, 3, 5) + x.about(4, 3, 3));
        Sentences.unchanged("stack", before, x -> x.stack(4, 0, 0) + x.stack(4, 105, 0));
        Sentences.unchanged("box", before, x -> x.box(4, 0x73625140) + x.box(4, 0x3625140));
        Sentences.unchanged("plain", before, x -> x.plain(4, 13) + x.plain(4, 14));
        Sentences.unchanged("word", before, x -> x.word(4, 104, 5) + x.word(4, 104, -1));
        Sentences.refused("box, half of it read", before, x -> x.box(4, 0x66543210), BAD);
        StrandBoxes x = new StrandBoxes();
        x.box(4, 0x66543210);
        due("stack behind a refused box", x.stack(4, 104, 3), 66);
        x.box(4, 0x66543210);
        due("plain behind a refused box", x.plain(4, 0), 52);
        x.box(4, 0x66543210);
        due("box behind a refused box", x.box(4, 0x76543210), 0);
    }
}
