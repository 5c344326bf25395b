import java.util.ArrayList;
import java.util.List;

/** What the tests of boundaries share: a sentence of the document, then calls with what is due. */
final class Sentences {
    static final int MIN = Integer.MIN_VALUE;
    static final int MAX = Integer.MAX_VALUE;
    static final int BAD = -1;
    static final int NO = -2;
    static final int FULL = -3;
    static final int NONE = -4;
    static final int HIGH = -5;
    static final int MOST_CALLS = 512;

    /** Calls on an object, one of which answers. */
    interface Calls {
        long on(StrandBoxes x);
    }

    /** The same call with another number in one place. */
    interface CallWith {
        long on(StrandBoxes x, int number);
    }

    private static String sentence = "";
    private static int sentences = 0;
    private static int wrong = 0;

    private Sentences() {
    }

    static void says(int promise, String words) {
        sentence = "promise " + promise + ", \"" + words + "\"";
        sentences++;
    }

    static void due(String call, long got, long want) {
        if (got != want) {
            wrong++;
            System.out.println(sentence + ": " + call + " answered " + got + ", due is " + want);
        }
    }

    /** On a new object each: good from low to high, refused on both sides and far beyond them. */
    static void range(String call, CallWith with, int low, int high, long refusal) {
        for (int number : new int[] {MIN, MIN + 1, low - 2, low - 1, high + 1, high + 2, MAX - 1, MAX}) {
            due(call + " with " + number, with.on(new StrandBoxes(), number), refusal);
            unchanged(call + " with " + number, x -> 0, x -> with.on(x, number));
        }
        for (int number = low; number <= high; number++) {
            if (with.on(new StrandBoxes(), number) == refusal) {
                due(call + " with " + number + ", where any answer but this is due", refusal, 0);
            }
        }
    }

    /** A call is refused, and the object then looks as one that was never asked. */
    static void refused(String call, Calls before, Calls asked, long refusal) {
        StrandBoxes x = new StrandBoxes();
        before.on(x);
        due(call, asked.on(x), refusal);
        unchanged(call, before, asked);
        due(call + " asked again", asked.on(x), refusal);
    }

    static void unchanged(String call, Calls before, Calls asked) {
        StrandBoxes x = new StrandBoxes();
        StrandBoxes twin = new StrandBoxes();
        before.on(x);
        before.on(twin);
        asked.on(x);
        List<Long> seen = look(x);
        List<Long> asBefore = look(twin);
        if (!seen.equals(asBefore)) {
            wrong++;
            System.out.println(sentence + ": " + call + " changed what is seen: " + seen
                    + " in place of " + asBefore);
        }
    }

    /** All that can be seen of an object's state; its crossings are gone afterwards. */
    static List<Long> look(StrandBoxes x) {
        List<Long> seen = new ArrayList<>();
        for (int s = 0; s < 8; s++) {
            seen.add((long) x.sum(s, 0));
            int terms = x.sum(s, 1);
            seen.add((long) terms);
            for (int i = 0; i < 3 * terms; i++) {
                seen.add(x.term(s, i / 3, i % 3));
            }
        }
        for (int k = -26; k <= 26; k++) {
            seen.add((long) x.power(k));
        }
        for (int i = 0; i < 9; i++) {
            seen.add((long) x.back());
            seen.add((long) x.power(-2));
        }
        for (int letter = 3; letter > 0; letter--) {
            seen.add((long) x.cross(letter));
        }
        if (seen.size() > MOST_CALLS) {
            throw new IllegalStateException("this look needs more calls than an object is good for");
        }
        return seen;
    }

    /** SUM s of n STRANDS becomes one TERM with any FACTOR up to 10^12; SUM 7 is used for it. */
    static void put(StrandBoxes x, int s, int n, int b, int power, long factor) {
        long million = 1000000;
        x.clear(s, n);
        if (factor / million != 0) {
            x.add(s, x.plain(n, 0), 0, factor / million);
            x.clear(7, n);
            x.add(7, b, power, million);
            x.work(s, 2, s, 7);
            x.clear(7, 2);
        }
        if (factor % million != 0) {
            x.add(s, b, power, factor % million);
        }
    }

    /** SUM s of two STRANDS with so many TERMS, at BOXES and POWERS from the first on. */
    static void fill(StrandBoxes x, int s, int first, int terms) {
        x.clear(s, 2);
        for (int k = first; k < first + terms; k++) {
            x.add(s, k / 21, k % 21, k + 1);
        }
    }

    static void dueTerm(StrandBoxes x, int s, int i, int b, int power, long factor) {
        due("BOX of TERM " + i + " of SUM " + s, x.term(s, i, 0), b);
        due("POWER of TERM " + i + " of SUM " + s, x.term(s, i, 1), power);
        due("FACTOR of TERM " + i + " of SUM " + s, x.term(s, i, 2), factor);
    }

    static void end() {
        System.out.println(sentences + " sentences, " + (wrong == 0 ? "all hold" : wrong + " answers wrong"));
        if (wrong != 0) {
            System.exit(1);
        }
    }
}
