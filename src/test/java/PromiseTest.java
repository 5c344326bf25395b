/** The promises one by one: ordinary calls, the edges that the document names, wrong calls. */
public final class PromiseTest {
    private static final int MIN = Integer.MIN_VALUE;
    private static final int MAX = Integer.MAX_VALUE;
    private static final int BAD = -1;
    private static final int NO = -2;
    private static final int FULL = -3;
    private static final int NONE = -4;
    private static final int HIGH = -5;
    private static final long TERM_NONE = -1000000000000004L;
    private static final long TERM_BAD = -1000000000000001L;
    private static final long MOST = 1000000000000L;
    private static int wrong = 0;

    private static void due(String what, long got, long want) {
        if (got != want) {
            wrong++;
            System.out.println(what + ": answered " + got + ", due is " + want);
        }
    }

    public static void main(String[] args) {
        newObject();
        many();
        partner();
        about();
        stack();
        box();
        plain();
        word();
        clear();
        addPlainly();
        addToTheEdges();
        workPlainly();
        workRefused();
        workHighOnTheWay();
        sumAndTerm();
        same();
        closed();
        halvesAndHalf();
        form();
        free();
        rowCrossBack();
        power();
        twoObjects();
        anyArguments();
        System.out.println(wrong == 0 ? "the promises hold" : wrong + " answers are not as due");
        if (wrong != 0) {
            System.exit(1);
        }
    }

    // Promise 1
    private static void newObject() {
        StrandBoxes x = new StrandBoxes();
        for (int s = 0; s < 8; s++) {
            due("1 strands of sum " + s, x.sum(s, 0), 2);
            due("1 terms of sum " + s, x.sum(s, 1), 0);
            due("1 first term of sum " + s, x.term(s, 0, 0), TERM_NONE);
            due("1 closed sum " + s, x.closed(s, 0), 0);
            due("1 like sum " + s, x.same(0, s), 1);
        }
        due("1 no crossing", x.back(), NO);
        due("1 two rings", x.power(2), -1);
        due("1 two rings", x.power(-2), -1);
        due("1 two rings", x.power(0), 0);
        due("1 row of two strands", x.cross(2), BAD);
        due("1 row of two strands", x.cross(1), 1);
    }

    // Promise 2
    private static void many() {
        StrandBoxes x = new StrandBoxes();
        int[] all = {1, 3, 15, 105};
        int[] plane = {1, 2, 5, 14};
        for (int n = 1; n <= 4; n++) {
            due("2 many " + n, x.many(n, 0), all[n - 1]);
            due("2 many plane " + n, x.many(n, 1), plane[n - 1]);
            due("2 plane 2", x.many(n, 2), BAD);
            due("2 plane -1", x.many(n, -1), BAD);
        }
        for (int n : new int[] {MIN, -1, 0, 5, MAX}) {
            due("2 many " + n, x.many(n, 0), BAD);
            due("2 many plane " + n, x.many(n, 1), BAD);
        }
    }

    // Promise 3
    private static void partner() {
        StrandBoxes x = new StrandBoxes();
        duePartners(x, 1, 0, 1, 0);
        duePartners(x, 2, 0, 1, 0, 3, 2);
        duePartners(x, 2, 1, 2, 3, 0, 1);
        duePartners(x, 2, 2, 3, 2, 1, 0);
        duePartners(x, 3, 0, 1, 0, 3, 2, 5, 4);
        duePartners(x, 3, 1, 1, 0, 4, 5, 2, 3);
        duePartners(x, 3, 2, 1, 0, 5, 4, 3, 2);
        duePartners(x, 3, 3, 2, 3, 0, 1, 5, 4);
        duePartners(x, 3, 14, 5, 4, 3, 2, 1, 0);
        duePartners(x, 4, 104, 7, 6, 5, 4, 3, 2, 1, 0);
        due("3 n 0", x.partner(0, 0, 0), BAD);
        due("3 n 5", x.partner(5, 0, 0), BAD);
        due("3 box -1", x.partner(3, -1, 0), BAD);
        due("3 box 15", x.partner(3, 15, 0), BAD);
        due("3 box 105", x.partner(4, 105, 0), BAD);
        due("3 box 1 of one strand", x.partner(1, 1, 0), BAD);
        due("3 point -1", x.partner(3, 0, -1), BAD);
        due("3 point MIN", x.partner(3, 0, MIN), BAD);
        due("3 point MAX", x.partner(3, 0, MAX), BAD);
    }

    private static void duePartners(StrandBoxes x, int n, int b, int... row) {
        for (int p = 0; p < row.length; p++) {
            due("3 partner " + n + " " + b + " " + p, x.partner(n, b, p), row[p]);
        }
        due("3 point behind", x.partner(n, b, row.length), BAD);
    }

    // Promise 4
    private static void about() {
        StrandBoxes x = new StrandBoxes();
        dueAbout(x, 1, 0, 1, 1, 0, 1, 0);
        dueAbout(x, 2, 0, 1, 0, 0, 1, 1);
        dueAbout(x, 2, 1, 1, 2, 1, 2, 0);
        dueAbout(x, 2, 2, 0, 2, 2, 1, 1);
        dueAbout(x, 3, 0, 1, 1, 12, 1, 2);
        dueAbout(x, 3, 1, 0, 1, 5, 1, 2);
        dueAbout(x, 3, 2, 1, 1, 2, 2, 1);
        dueAbout(x, 3, 7, 1, 3, 7, 3, 0);
        dueAbout(x, 3, 14, 0, 3, 14, 2, 3);
        dueAbout(x, 4, 104, 0, 4, 104, 2, 6);
        due("4 what -1", x.about(2, 0, -1), BAD);
        due("4 what 5", x.about(2, 0, 5), BAD);
        due("4 box -1", x.about(2, -1, 0), BAD);
        due("4 box 3", x.about(2, 3, 0), BAD);
        due("4 n 0", x.about(0, 0, 0), BAD);
        due("4 n 5", x.about(5, 0, 4), BAD);
    }

    private static void dueAbout(StrandBoxes x, int n, int b, int... answers) {
        for (int what = 0; what < 5; what++) {
            due("4 about " + n + " " + b + " " + what, x.about(n, b, what), answers[what]);
        }
    }

    // Promise 5
    private static void stack() {
        StrandBoxes x = new StrandBoxes();
        due("5 E E", x.stack(2, 0, 0), 1000);
        due("5 S S", x.stack(2, 2, 2), 1);
        due("5 E S", x.stack(2, 0, 2), 0);
        due("5 E 1 above E 2", x.stack(3, 2, 6), 0);
        due("5 E 2 above E 1", x.stack(3, 6, 2), 12);
        int both = x.stack(4, x.plain(4, 1), x.plain(4, 3));
        due("5 E 1 E 3", both, 0);
        due("5 two rings", x.stack(4, both, both), 2000);
        due("5 one strand", x.stack(1, 0, 0), 0);
        due("5 x 3", x.stack(2, 3, 0), BAD);
        due("5 y 3", x.stack(2, 0, 3), BAD);
        due("5 x -1", x.stack(2, -1, 0), BAD);
        due("5 y -1", x.stack(2, 0, -1), BAD);
        due("5 n 0", x.stack(0, 0, 0), BAD);
        due("5 n 5", x.stack(5, 0, 0), BAD);
    }

    // Promise 6
    private static void box() {
        StrandBoxes x = new StrandBoxes();
        due("6 0 with 3, 1 with 2", x.box(2, 0x2130L), 2);
        due("6 in other order", x.box(2, 0x0312L), 2);
        due("6 one strand", x.box(1, 0x10L), 0);
        due("6 one strand turned", x.box(1, 0x01L), 0);
        due("6 four strands, eight bits high", x.box(4, 0x76543210L), 0);
        due("6 four strands turned", x.box(4, 0x01234567L), 0);
        due("6 four strands, all straight", x.box(4, 0x73625140L), 52);
        due("6 four strands, the sign of an int", x.box(4, 0x80000000L | 0x76543210L), BAD);
        due("6 all straight", x.box(4, 0x73625140L), x.plain(4, 0));
        due("6 a point twice", x.box(2, 0x2110L), BAD);
        due("6 a point with itself", x.box(2, 0x3211L), BAD);
        due("6 a point too high", x.box(2, 0x4210L), BAD);
        due("6 a point too high", x.box(4, 0x86543210L), BAD);
        due("6 a pair too few", x.box(3, 0x3210L), BAD);
        due("6 a pair too many", x.box(2, 0x543210L), BAD);
        due("6 something above", x.box(4, 0x176543210L), BAD);
        due("6 something far above", x.box(1, 0x10L | Long.MIN_VALUE), BAD);
        due("6 nothing", x.box(1, 0), BAD);
        due("6 n 0", x.box(0, 0), BAD);
        due("6 n 5", x.box(5, 0x9876543210L), BAD);
    }

    // Promise 7
    private static void plain() {
        StrandBoxes x = new StrandBoxes();
        due("7 one strand", x.plain(1, 0), 0);
        due("7 one strand, E", x.plain(1, 1), BAD);
        due("7 one strand, S", x.plain(1, 11), BAD);
        due("7 2 E", x.plain(2, 1), 0);
        due("7 2 S", x.plain(2, 11), 2);
        due("7 2 straight", x.plain(2, 0), 1);
        due("7 3 E 2", x.plain(3, 2), 6);
        due("7 3 S 1", x.plain(3, 11), x.box(3, 0x523140L));
        due("7 3 S 2", x.plain(3, 12), x.box(3, 0x425130L));
        due("7 4 S 3", x.plain(4, 13), x.box(4, 0x63725140L));
        due("7 4 E 3", x.plain(4, 3), x.box(4, 0x76325140L));
        for (int n = 1; n <= 4; n++) {
            for (int letter : new int[] {MIN, -11, -1, n, 10, 10 + n, 21, MAX}) {
                due("7 letter " + letter + " of " + n, x.plain(n, letter), BAD);
            }
        }
        due("7 n 0", x.plain(0, 0), BAD);
        due("7 n 5", x.plain(5, 0), BAD);
    }

    // Promise 8
    private static void word() {
        StrandBoxes x = new StrandBoxes();
        dueWord(x, 1, 0);
        dueWord(x, 2, 0, 1);
        dueWord(x, 2, 1);
        dueWord(x, 2, 2, 11);
        dueWord(x, 3, 0, 1, 2);
        dueWord(x, 3, 12, 2, 1);
        dueWord(x, 3, 14, 11, 12, 11);
        dueWord(x, 4, 0, 1, 3);
        dueWord(x, 4, 104, 11, 12, 11, 13, 12, 11);
        due("8 i -1", x.word(3, 0, -1), BAD);
        due("8 i MIN", x.word(3, 0, MIN), BAD);
        due("8 i MAX", x.word(3, 0, MAX), NONE);
        due("8 box 15", x.word(3, 15, 0), BAD);
        due("8 box -1", x.word(3, -1, 0), BAD);
        due("8 n 5", x.word(5, 0, 0), BAD);
        due("8 n 0", x.word(0, 0, 7), BAD);
    }

    private static void dueWord(StrandBoxes x, int n, int b, int... letters) {
        for (int i = 0; i < letters.length; i++) {
            due("8 word " + n + " " + b + " " + i, x.word(n, b, i), letters[i]);
        }
        due("8 behind " + n + " " + b, x.word(n, b, letters.length), NONE);
    }

    // Promise 9
    private static void clear() {
        StrandBoxes x = new StrandBoxes();
        x.add(3, 0, 0, 1);
        x.add(3, 1, 0, 1);
        due("9 n 0", x.clear(3, 0), BAD);
        due("9 n 5", x.clear(3, 5), BAD);
        due("9 sum -1", x.clear(-1, 2), BAD);
        due("9 sum 8", x.clear(8, 2), BAD);
        due("9 nothing changed", x.sum(3, 1), 2);
        due("9 nothing changed", x.sum(3, 0), 2);
        due("9 it had two", x.clear(3, 4), 2);
        due("9 of four", x.sum(3, 0), 4);
        due("9 none", x.sum(3, 1), 0);
        due("9 another box", x.add(3, 104, 0, 1), 1);
        due("9 it had one", x.clear(3, 1), 1);
        due("9 it had none", x.clear(3, 1), 0);
        due("9 others stay", x.sum(2, 0), 2);
    }

    // Promise 10
    private static void addPlainly() {
        StrandBoxes x = new StrandBoxes();
        due("10 first", x.add(0, 2, 5, 7), 1);
        due("10 in front", x.add(0, 0, 20, -3), 2);
        due("10 between", x.add(0, 2, 0, 1), 3);
        dueTerm(x, 0, 0, 0, 20, -3);
        dueTerm(x, 0, 1, 2, 0, 1);
        dueTerm(x, 0, 2, 2, 5, 7);
        due("10 like ones", x.add(0, 2, 0, 4), 3);
        dueTerm(x, 0, 1, 2, 0, 5);
        due("10 with 0 left out", x.add(0, 2, 0, -5), 2);
        dueTerm(x, 0, 1, 2, 5, 7);
        due("10 factor 0", x.add(0, 1, 1, 0), 2);
        due("10 factor 0 on a term", x.add(0, 2, 5, 0), 2);
        dueTerm(x, 0, 1, 2, 5, 7);
        due("10 sum -1", x.add(-1, 0, 0, 1), BAD);
        due("10 sum 8", x.add(8, 0, 0, 1), BAD);
        due("10 box -1", x.add(0, -1, 0, 1), BAD);
        due("10 box 3", x.add(0, 3, 0, 1), BAD);
        due("10 power -1", x.add(0, 0, -1, 1), BAD);
        due("10 power 21", x.add(0, 0, 21, 1), BAD);
        due("10 factor too high", x.add(0, 0, 0, 1000001), BAD);
        due("10 factor too low", x.add(0, 0, 0, -1000001), BAD);
        due("10 factor far too high", x.add(0, 0, 0, (1L << 32) + 1), BAD);
        due("10 factor far too low", x.add(0, 0, 0, Long.MIN_VALUE), BAD);
        due("10 nothing changed", x.sum(0, 1), 2);
        due("10 highest factor", x.add(1, 0, 20, 1000000), 1);
        due("10 lowest factor", x.add(1, 0, 0, -1000000), 2);
    }

    private static void dueTerm(StrandBoxes x, int s, int i, int b, int power, long f) {
        due("box of term " + i, x.term(s, i, 0), b);
        due("power of term " + i, x.term(s, i, 1), power);
        due("factor of term " + i, x.term(s, i, 2), f);
    }

    /** A sum of one term with the factor 10^12. */
    private static void makeMost(StrandBoxes x, int s, int sign) {
        x.clear(s, 2);
        x.add(s, 1, 0, 1000000);
        x.work(s, 2, s, s);
        if (sign < 0) {
            x.clear(7, 2);
            x.work(s, 1, 7, s);
        }
    }

    private static void fill(StrandBoxes x, int s, int first) {
        x.clear(s, 2);
        for (int k = 0; k < 40; k++) {
            x.add(s, (first + k) / 21, (first + k) % 21, k + 1);
        }
    }

    private static void addToTheEdges() {
        StrandBoxes x = new StrandBoxes();
        makeMost(x, 0, 1);
        dueTerm(x, 0, 0, 1, 0, MOST);
        due("10 beyond", x.add(0, 1, 0, 1), HIGH);
        dueTerm(x, 0, 0, 1, 0, MOST);
        due("10 back from the edge", x.add(0, 1, 0, -1), 1);
        due("10 to the edge", x.add(0, 1, 0, 1), 1);
        makeMost(x, 1, -1);
        dueTerm(x, 1, 0, 1, 0, -MOST);
        due("10 beneath", x.add(1, 1, 0, -1), HIGH);
        dueTerm(x, 1, 0, 1, 0, -MOST);
        fill(x, 2, 0);
        due("10 forty", x.sum(2, 1), 40);
        due("10 one more", x.add(2, 2, 0, 1), HIGH);
        due("10 still forty", x.sum(2, 1), 40);
        due("10 a like one", x.add(2, 1, 18, 1), 40);
        dueTerm(x, 2, 39, 1, 18, 41);
        due("10 none of one more", x.add(2, 2, 0, 0), 40);
        due("10 one less", x.add(2, 0, 0, -1), 39);
        dueTerm(x, 2, 0, 0, 1, 2);
        due("10 one more again", x.add(2, 2, 0, 1), 40);
        dueTerm(x, 2, 39, 2, 0, 1);
    }

    // Promise 11
    private static void workPlainly() {
        StrandBoxes x = new StrandBoxes();
        x.add(0, 0, 0, 1);
        x.add(0, 1, 0, 2);
        x.add(1, 1, 0, -2);
        x.add(1, 2, 3, 5);
        due("11 and", x.work(2, 0, 0, 1), 2);
        dueTerm(x, 2, 0, 0, 0, 1);
        dueTerm(x, 2, 1, 2, 3, 5);
        due("11 less", x.work(3, 1, 0, 1), 3);
        dueTerm(x, 3, 0, 0, 0, 1);
        dueTerm(x, 3, 1, 1, 0, 4);
        dueTerm(x, 3, 2, 2, 3, -5);
        due("11 times", x.work(4, 2, 0, 1), 4);
        dueTerm(x, 4, 0, 0, 0, -2);
        dueTerm(x, 4, 1, 0, 3, 5);
        dueTerm(x, 4, 2, 1, 0, -4);
        dueTerm(x, 4, 3, 2, 3, 10);
        due("11 a ring", x.work(0, 2, 0, 0), 3);
        dueTerm(x, 0, 0, 0, 0, 4);
        dueTerm(x, 0, 1, 0, 1, 1);
        dueTerm(x, 0, 2, 1, 0, 4);
        due("11 itself less itself", x.work(1, 1, 1, 1), 0);
        due("11 with none", x.work(1, 0, 0, 1), 3);
        due("11 times none", x.work(6, 2, 0, 7), 0);
        orderMatters();
    }

    private static void orderMatters() {
        StrandBoxes x = new StrandBoxes();
        x.clear(0, 3);
        x.clear(1, 3);
        x.add(0, 2, 0, 1);
        x.add(1, 6, 0, 1);
        due("11 of the strands of t", x.work(5, 2, 0, 1), 1);
        due("11 of the strands of t", x.sum(5, 0), 3);
        dueTerm(x, 5, 0, 0, 0, 1);
        x.work(5, 2, 1, 0);
        dueTerm(x, 5, 0, 12, 0, 1);
    }

    private static void workRefused() {
        StrandBoxes x = new StrandBoxes();
        x.add(0, 0, 0, 3);
        x.clear(1, 3);
        for (int bad : new int[] {MIN, -1, 8, MAX}) {
            due("11 s " + bad, x.work(bad, 0, 0, 0), BAD);
            due("11 t " + bad, x.work(0, 0, bad, 0), BAD);
            due("11 u " + bad, x.work(0, 0, 0, bad), BAD);
        }
        due("11 how -1", x.work(0, -1, 0, 0), BAD);
        due("11 how 3", x.work(0, 3, 0, 0), BAD);
        due("11 BAD ahead of NO", x.work(8, 0, 0, 1), BAD);
        due("11 BAD ahead of NO", x.work(0, 3, 0, 1), BAD);
        for (int how = 0; how < 3; how++) {
            due("11 unlike strands", x.work(0, how, 0, 1), NO);
            due("11 unlike strands", x.work(2, how, 1, 0), NO);
        }
        due("11 nothing changed", x.sum(0, 1), 1);
        dueTerm(x, 0, 0, 0, 0, 3);
        due("11 s may be of unlike strands", x.work(1, 0, 0, 0), 1);
        due("11 and becomes like", x.sum(1, 0), 2);
        dueTerm(x, 1, 0, 0, 0, 6);
    }

    private static void workHighOnTheWay() {
        StrandBoxes x = new StrandBoxes();
        makeMost(x, 0, 1);
        x.add(1, 1, 0, 1);
        due("11 a factor beyond", x.work(2, 0, 0, 1), HIGH);
        due("11 a factor at the edge", x.work(2, 1, 0, 1), 1);
        dueTerm(x, 2, 0, 1, 0, MOST - 1);
        due("11 times 1", x.work(2, 2, 0, 1), 1);
        x.add(1, 1, 0, 1);
        due("11 times 2", x.work(2, 2, 0, 1), HIGH);
        due("11 beyond a long", x.work(0, 2, 0, 0), HIGH);
        dueTerm(x, 0, 0, 1, 0, MOST);
        due("11 less beneath", x.work(3, 1, 4, 0), 1);
        due("11 less beneath", x.work(3, 1, 3, 1), HIGH);
        dueTerm(x, 3, 0, 1, 0, -MOST);
        powersOnTheWay();
        termsOnTheWay();
        factorsOnTheWay();
    }

    private static void powersOnTheWay() {
        StrandBoxes x = new StrandBoxes();
        x.add(0, 0, 10, 1);
        x.add(1, 0, 9, 1);
        x.add(2, 1, 10, 1);
        due("11 power 20 with a ring", x.work(3, 2, 0, 1), 1);
        dueTerm(x, 3, 0, 0, 20, 1);
        due("11 power 21 with a ring", x.work(3, 2, 0, 0), HIGH);
        due("11 power 20", x.work(4, 2, 0, 2), 1);
        due("11 nothing changed", x.same(3, 4), 1);
    }

    private static void termsOnTheWay() {
        StrandBoxes x = new StrandBoxes();
        fill(x, 0, 1);
        x.add(1, 0, 0, 1);
        x.add(1, 0, 1, -1);
        due("11 forty-one on the way", x.work(2, 0, 0, 1), HIGH);
        due("11 not so the other way round", x.work(2, 0, 1, 0), 40);
        dueTerm(x, 2, 0, 0, 0, 1);
        dueTerm(x, 2, 1, 0, 2, 2);
        x.clear(1, 2);
        x.add(1, 0, 1, -1);
        x.add(1, 2, 20, 9);
        due("11 a term goes before one comes", x.work(2, 0, 0, 1), 40);
        dueTerm(x, 2, 0, 0, 2, 2);
        dueTerm(x, 2, 39, 2, 20, 9);
        due("11 forty less forty", x.work(2, 1, 0, 0), 0);
        due("11 forty and forty", x.work(0, 0, 0, 0), 40);
        dueTerm(x, 0, 39, 1, 19, 80);
    }

    /** In one order a product comes on top of 10^12 ahead of one that takes it back. */
    private static void factorsOnTheWay() {
        StrandBoxes x = new StrandBoxes();
        x.add(0, 1, 0, 1000000);
        x.add(0, 1, 1, 1);
        x.add(0, 1, 2, -1);
        x.add(1, 1, 0, 1);
        x.add(1, 1, 1, 1);
        x.add(1, 1, 2, 1000000);
        due("11 beyond on the way", x.work(2, 2, 0, 1), HIGH);
        due("11 nothing changed", x.sum(2, 1), 0);
        due("11 within all the way", x.work(2, 2, 1, 0), 5);
        dueTerm(x, 2, 0, 1, 0, 1000000);
        dueTerm(x, 2, 1, 1, 1, 1000001);
        dueTerm(x, 2, 2, 1, 2, MOST);
        dueTerm(x, 2, 3, 1, 3, 999999);
        dueTerm(x, 2, 4, 1, 4, -1000000);
        aProductBeyond();
    }

    /** Minus 10^12 stands when a product of 2 10^12 comes: that one is beyond by itself. */
    private static void aProductBeyond() {
        StrandBoxes x = new StrandBoxes();
        x.add(0, 1, 0, -1000000);
        x.add(0, 2, 0, 1000000);
        x.add(1, 1, 0, 1000000);
        x.add(1, 2, 0, 1000000);
        due("11 products at the edge", x.work(2, 2, 0, 1), 0);
        x.add(0, 2, 0, 1000000);
        due("11 a product beyond, less one that stands", x.work(2, 2, 0, 1), HIGH);
    }

    // Promises 12 and 13
    private static void sumAndTerm() {
        StrandBoxes x = new StrandBoxes();
        x.clear(7, 4);
        x.add(7, 104, 20, -1000000);
        due("12 strands", x.sum(7, 0), 4);
        due("12 terms", x.sum(7, 1), 1);
        due("12 what 2", x.sum(7, 2), BAD);
        due("12 what -1", x.sum(7, -1), BAD);
        due("12 sum 8", x.sum(8, 1), BAD);
        due("12 sum -1", x.sum(-1, 0), BAD);
        dueTerm(x, 7, 0, 104, 20, -1000000);
        for (int what = 0; what < 3; what++) {
            due("13 behind", x.term(7, 1, what), TERM_NONE);
            due("13 far behind", x.term(7, MAX, what), TERM_NONE);
            due("13 i -1", x.term(7, -1, what), TERM_BAD);
            due("13 i MIN", x.term(7, MIN, what), TERM_BAD);
            due("13 sum 8", x.term(8, 0, what), TERM_BAD);
            due("13 sum -1", x.term(-1, 0, what), TERM_BAD);
        }
        due("13 what -1", x.term(7, 0, -1), TERM_BAD);
        due("13 what 3", x.term(7, 0, 3), TERM_BAD);
    }

    // Promise 14
    private static void same() {
        StrandBoxes x = new StrandBoxes();
        x.add(0, 0, 3, 5);
        due("14 terms and none", x.same(0, 1), 0);
        x.add(1, 0, 3, 4);
        due("14 unlike factors", x.same(0, 1), 0);
        x.add(1, 0, 3, 1);
        due("14 like", x.same(0, 1), 1);
        x.add(1, 1, 0, 1);
        due("14 one more", x.same(0, 1), 0);
        x.add(2, 0, 4, 5);
        due("14 unlike powers", x.same(0, 2), 0);
        x.add(3, 1, 3, 5);
        due("14 unlike boxes", x.same(0, 3), 0);
        x.clear(4, 3);
        due("14 unlike strands", x.same(4, 5), 0);
        x.add(4, 0, 3, 5);
        due("14 unlike strands, like numbers", x.same(0, 4), 0);
        due("14 itself", x.same(4, 4), 1);
        due("14 s 8", x.same(8, 0), BAD);
        due("14 t 8", x.same(0, 8), BAD);
        due("14 s -1", x.same(-1, 0), BAD);
        due("14 t -1", x.same(0, -1), BAD);
        due("14 both", x.same(8, 8), BAD);
    }

    // Promise 15
    private static void closed() {
        StrandBoxes x = new StrandBoxes();
        x.clear(0, 4);
        x.add(0, 52, 20, 6);
        due("15 the highest power", x.closed(0, 24), 6);
        due("15 another power", x.closed(0, 20), 0);
        x.add(0, 52, 0, 2);
        x.add(0, 104, 2, 3);
        due("15 added up", x.closed(0, 4), 5);
        due("15 power -1", x.closed(0, -1), 0);
        due("15 power 25", x.closed(0, 25), 0);
        due("15 power MIN", x.closed(0, MIN), 0);
        due("15 sum 8", x.closed(8, 4), 0);
        due("15 sum -1", x.closed(-1, 4), 0);
        x.clear(1, 1);
        x.add(1, 0, 0, 9);
        due("15 one strand", x.closed(1, 1), 9);
        makeMost(x, 2, 1);
        x.clear(3, 2);
        x.add(3, 0, 1, 1);
        x.work(3, 2, 3, 2);
        x.work(2, 0, 2, 3);
        due("15 two of the highest", x.closed(2, 2), 2 * MOST);
    }

    // Promises 16 and 17
    private static void halvesAndHalf() {
        StrandBoxes x = new StrandBoxes();
        int[][] counts = {{0, 1}, {1, 0, 1}, {0, 2, 0, 1}, {2, 0, 3, 0, 1}};
        for (int n = 1; n <= 4; n++) {
            for (int t = 0; t <= n; t++) {
                due("16 halves " + n + " " + t, x.halves(n, t), counts[n - 1][t]);
                due("17 behind " + n + " " + t, x.half(n, t, counts[n - 1][t], 0), NONE);
            }
            due("16 t -1", x.halves(n, -1), BAD);
            due("16 t n + 1", x.halves(n, n + 1), BAD);
        }
        due("16 n 0", x.halves(0, 0), BAD);
        due("16 n 5", x.halves(5, 1), BAD);
        dueHalf(x, 4, 0, 0, 1, 0, 3, 2);
        dueHalf(x, 4, 0, 1, 3, 2, 1, 0);
        dueHalf(x, 4, 2, 0, 1, 0, 4, 4);
        dueHalf(x, 4, 2, 1, 4, 2, 1, 4);
        dueHalf(x, 4, 2, 2, 4, 4, 3, 2);
        dueHalf(x, 4, 4, 0, 4, 4, 4, 4);
        dueHalf(x, 1, 1, 0, 1);
        due("17 no such half", x.half(3, 2, 0, 0), NONE);
        due("17 no such half below", x.half(3, 1, -1, 0), NONE);
        due("17 point -1", x.half(3, 1, 0, -1), BAD);
        due("17 point 3", x.half(3, 1, 0, 3), BAD);
        due("17 t 4", x.half(3, 4, 0, 0), BAD);
        due("17 t -1", x.half(3, -1, 0, 0), BAD);
        due("17 n 0", x.half(0, 0, 0, 0), BAD);
        due("17 n 5", x.half(5, 1, 0, 0), BAD);
    }

    private static void dueHalf(StrandBoxes x, int n, int t, int i, int... row) {
        for (int p = 0; p < n; p++) {
            due("17 half " + n + " " + t + " " + i + " " + p, x.half(n, t, i, p), row[p]);
        }
    }

    // Promise 18
    private static void form() {
        StrandBoxes x = new StrandBoxes();
        int[][] two = {{1, 0, NONE}, {0, 1, 0}, {NONE, 0, 1}};
        int[][] none = {{2, 1}, {1, 2}};
        for (int i = 0; i < 3; i++) {
            for (int j = 0; j < 3; j++) {
                due("18 form 4 2 " + i + " " + j, x.form(4, 2, i, j), two[i][j]);
                if (i < 2 && j < 2) {
                    due("18 form 4 0 " + i + " " + j, x.form(4, 0, i, j), none[i][j]);
                }
            }
        }
        due("18 all left", x.form(4, 4, 0, 0), 0);
        due("18 one strand", x.form(1, 1, 0, 0), 0);
        due("18 two strands", x.form(2, 0, 0, 0), 1);
        due("18 i 3", x.form(4, 2, 3, 0), BAD);
        due("18 j 3", x.form(4, 2, 0, 3), BAD);
        due("18 i -1", x.form(4, 2, -1, 0), BAD);
        due("18 j -1", x.form(4, 2, 0, -1), BAD);
        due("18 there is none", x.form(4, 3, 0, 0), BAD);
        due("18 t 5", x.form(4, 5, 0, 0), BAD);
        due("18 t -1", x.form(4, -1, 0, 0), BAD);
        due("18 n 5", x.form(5, 1, 0, 0), BAD);
        due("18 n 0", x.form(0, 0, 0, 0), BAD);
    }

    // Promise 19: the determinant of 4 2 is v (v v - 2), of 4 0 v v (v v - 1), of 3 1 v v - 1
    private static void free() {
        StrandBoxes x = new StrandBoxes();
        due("19 whole", x.free(4, 2, 5, 997), 3);
        due("19 v v = 2", x.free(4, 2, 3, 7), 2);
        due("19 v v = 2", x.free(4, 2, -3, 7), 2);
        due("19 v = 0", x.free(4, 2, 0, 7), 2);
        due("19 v = 0 modulo 2", x.free(4, 2, 1000, 2), 2);
        due("19 no rank", x.free(4, 0, 0, 5), 0);
        due("19 v v = 1", x.free(4, 0, 1, 5), 1);
        due("19 v v = 1", x.free(4, 0, -1, 5), 1);
        due("19 whole", x.free(4, 0, 2, 5), 2);
        due("19 v = 0", x.free(3, 1, 0, 5), 2);
        due("19 v v = 1", x.free(3, 1, -1, 2), 1);
        due("19 no halves", x.free(3, 2, 2, 3), 0);
        due("19 letter to the power 0", x.free(1, 1, 0, 2), 1);
        due("19 highest", x.free(4, 2, 1000, 997), 3);
        due("19 lowest", x.free(4, 2, -1000, 997), 3);
        due("19 v 1001", x.free(4, 2, 1001, 997), BAD);
        due("19 v -1001", x.free(4, 2, -1001, 997), BAD);
        for (int p : new int[] {MIN, -3, 0, 1, 4, 9, 25, 961, 998, 1009, MAX}) {
            due("19 p " + p, x.free(4, 2, 1, p), BAD);
        }
        due("19 n 0", x.free(0, 0, 1, 2), BAD);
        due("19 n 5", x.free(5, 1, 1, 2), BAD);
        due("19 t -1", x.free(4, -1, 1, 2), BAD);
        due("19 t 5", x.free(4, 5, 1, 2), BAD);
    }

    // Promises 20 to 22
    private static void rowCrossBack() {
        StrandBoxes x = new StrandBoxes();
        due("22 none", x.back(), NO);
        x.cross(1);
        due("20 n 1", x.row(1), BAD);
        due("20 n 5", x.row(5), BAD);
        due("20 n MIN", x.row(MIN), BAD);
        due("20 nothing changed", x.cross(-1), 2);
        due("20 anew", x.row(4), 0);
        due("20 empty", x.back(), NO);
        for (int bad : new int[] {MIN, -4, 0, 4, 11, MAX}) {
            due("21 letter " + bad, x.cross(bad), BAD);
        }
        int[] letters = {1, -1, 2, -2, 3, -3, 1, 3};
        for (int i = 0; i < 8; i++) {
            due("21 crossing " + i, x.cross(letters[i]), i + 1);
        }
        due("21 full", x.cross(1), FULL);
        due("21 full", x.cross(-3), FULL);
        due("21 BAD ahead of FULL", x.cross(4), BAD);
        due("21 BAD ahead of FULL", x.cross(0), BAD);
        for (int left = 7; left >= 0; left--) {
            due("22 back", x.back(), left);
        }
        due("22 none", x.back(), NO);
        due("20 two strands", x.row(2), 0);
        due("21 letter 2 of two", x.cross(2), BAD);
        due("20 three strands", x.row(3), 0);
        due("21 letter -2 of three", x.cross(-2), 1);
        due("21 letter 3 of three", x.cross(3), BAD);
    }

    // Promise 23
    private static void power() {
        StrandBoxes x = new StrandBoxes();
        x.row(4);
        duePowers(x, "three rings more", 6, -1, 2, -3, -2, -3, -6, -1);
        x.row(2);
        x.cross(1);
        duePowers(x, "a curl", 3, -1);
        x.cross(1);
        duePowers(x, "two linked", 4, -1, -4, -1);
        x.cross(1);
        duePowers(x, "the trefoil", 5, -1, -3, -1, -7, 1);
        x.back();
        duePowers(x, "two linked again", 4, -1, -4, -1);
        x.cross(-1);
        duePowers(x, "a curl and one back", 3, -1);
        x.row(3);
        for (int i = 0; i < 2; i++) {
            x.cross(1);
            x.cross(-2);
        }
        duePowers(x, "the figure of eight", 8, 1, 4, -1, 0, 1, -4, -1, -8, 1);
        x.row(2);
        for (int i = 0; i < 8; i++) {
            x.cross(-1);
        }
        duePowers(x, "eight", 22, -1, 18, 1, 14, -1, 10, 1, 6, -1, 2, 1, -2, -1, -10, -1);
    }

    /** All powers: those told with their wholes, the others with 0, those beyond BAD. */
    private static void duePowers(StrandBoxes x, String what, int... told) {
        for (int k = -24; k <= 24; k++) {
            int want = 0;
            for (int i = 0; i < told.length; i += 2) {
                want = told[i] == k ? told[i + 1] : want;
            }
            due("23 " + what + " " + k, x.power(k), want);
        }
        due("23 40", x.power(40), 0);
        due("23 -40", x.power(-40), 0);
        due("23 41", x.power(41), -1000000);
        due("23 -41", x.power(-41), -1000000);
        due("23 MIN", x.power(MIN), -1000000);
        due("23 MAX", x.power(MAX), -1000000);
    }

    private static void twoObjects() {
        StrandBoxes x = new StrandBoxes();
        StrandBoxes y = new StrandBoxes();
        x.add(0, 0, 0, 1);
        x.row(4);
        x.cross(3);
        due("1 objects by themselves", y.sum(0, 1), 0);
        due("1 objects by themselves", y.cross(3), BAD);
        due("1 objects by themselves", y.back(), NO);
    }

    /** No call may throw, whatever it is given. */
    private static void anyArguments() {
        int[] odd = {MIN, MIN + 1, -1000, -41, -5, -1, 0, 1, 2, 3, 4, 5, 7, 8, 11, 13, 20, 40, 104, 105, 997, 1000, MAX};
        long state = 12345;
        for (int object = 0; object < 200; object++) {
            StrandBoxes x = new StrandBoxes();
            for (int i = 0; i < 510; i++) {
                int[] a = new int[4];
                for (int k = 0; k < 4; k++) {
                    state = state * 6364136223846793005L + 1442695040888963407L;
                    int pick = (int) ((state >>> 33) % 60);
                    a[k] = pick < odd.length ? odd[pick] : pick % 5;
                }
                state = state * 6364136223846793005L + 1442695040888963407L;
                anyCall(x, (int) ((state >>> 33) % 22), a);
            }
        }
    }

    private static void anyCall(StrandBoxes x, int which, int[] a) {
        switch (which) {
            case 0: x.many(a[0], a[1]); break;
            case 1: x.partner(a[0], a[1], a[2]); break;
            case 2: x.about(a[0], a[1], a[2]); break;
            case 3: x.stack(a[0], a[1], a[2]); break;
            case 4: x.box(a[0], (long) a[1] << 32 ^ a[2]); break;
            case 5: x.plain(a[0], a[1]); break;
            case 6: x.word(a[0], a[1], a[2]); break;
            case 7: x.clear(a[0], a[1]); break;
            case 8: x.add(a[0], a[1], a[2], a[3]); break;
            case 9: x.work(a[0], a[1], a[2], a[3]); break;
            case 10: x.sum(a[0], a[1]); break;
            case 11: x.term(a[0], a[1], a[2]); break;
            case 12: x.same(a[0], a[1]); break;
            case 13: x.closed(a[0], a[1]); break;
            case 14: x.halves(a[0], a[1]); break;
            case 15: x.half(a[0], a[1], a[2], a[3]); break;
            case 16: x.form(a[0], a[1], a[2], a[3]); break;
            case 17: x.free(a[0], a[1], a[2], a[3]); break;
            case 18: x.row(a[0]); break;
            case 19: x.cross(a[0]); break;
            case 20: x.back(); break;
            default: x.power(a[0]); break;
        }
    }
}
