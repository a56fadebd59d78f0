import java.util.function.ToLongFunction;

/**
 * The boundaries that the document names, sentence by sentence: its heading 5, what stands behind it of
 * BAD, NO, NONE and FULL, promises 21 to 23.
 */
public final class EdgesOfPartsTest {
    private static final int LEAST = Integer.MIN_VALUE;
    private static final int MOST = Integer.MAX_VALUE;
    private static final int BAD = CarriedRows.BAD;
    private static final int NO = CarriedRows.NO;
    private static final int FULL = CarriedRows.FULL;
    private static final int NONE = CarriedRows.NONE;
    private static final int SPENT = CarriedRows.SPENT;
    private static final String FIBONACCI = "1,1:0,1";
    /** By 97 its round is beyond all that is told. */
    private static final String FAR = "1,1,1,1,1,1:0,0,0,0,0,1";

    private EdgesOfPartsTest() {
    }

    public static void main(String[] args) {
        dividingTo();
        firstPair();
        noughtIsAPart();
        strong();
        strongSizes();
        dividingSpent();
        partedBy();
        partsAsOften();
        degrees();
        badBeforeNo();
        badBeforeNone();
        badBeforeFull();
        badBeforeSpent();
        nothingChanges();
        askingChangesNothing();
        dividing();
        parted();
        count();
        Checks.finish("EdgesOfPartsTest");
    }

    private static void isDividing(String text, boolean strong, int n, int want) {
        Checks.due("dividing of " + text + ", " + strong + ", to " + n, Checks.with(text).dividing(0, strong, n), want);
    }

    /** All three answers of parted. */
    private static void isParted(String law, int p, int all, int greatest, int unlike) {
        StringBuilder row = new StringBuilder(law).append(":0");
        for (int i = 0; i < law.length(); i++) {
            row.append(law.charAt(i) == ',' ? ",0" : "");
        }
        CarriedRows rows = Checks.with(row.toString());
        Checks.due("parted of " + law + " by " + p + ", all", rows.parted(0, p, 0), all);
        Checks.due("parted of " + law + " by " + p + ", the greatest", rows.parted(0, p, 1), greatest);
        Checks.due("parted of " + law + " by " + p + ", unlike", rows.parted(0, p, 2), unlike);
    }

    // ---- terms

    private static void dividingTo() {
        Checks.sentence("DIVIDING to N (2 to 40)");
        for (boolean strong : new boolean[] {false, true}) {
            for (int n : new int[] {1, 0, -1, -2, 41, LEAST, MOST}) {
                isDividing(FIBONACCI, strong, n, BAD);
            }
            isDividing(FIBONACCI, strong, 2, NONE);
            isDividing(FIBONACCI, strong, 40, NONE);
            isDividing("0,1:1,2", strong, 2, 102);
        }
        // Place 40 is asked, and with it place 20.
        isDividing("0,0,0,2,-2:1,-1,-2,-1,-2", false, 39, NONE);
        isDividing("0,0,0,2,-2:1,-1,-2,-1,-2", false, 40, 2040);
        isDividing("-1,-1,-1,-1,2:-2,-2,-2,-2,-2", true, 21, NONE);
        isDividing("-1,-1,-1,-1,2:-2,-2,-2,-2,-2", true, 22, 1122);
    }

    private static void firstPair() {
        Checks.sentence("the first pair of places i below j, i a part of j, i 1 at least (by j, then i)");
        // Places 0 to 5 come again.
        String again = "0,0,0,0,0,1:";
        isDividing(again + "9,1,3,1,4,1", false, 40, 204);
        isDividing(again + "9,3,6,9,4,3", false, 40, 104);
        isDividing(again + "9,3,6,9,7,7", false, 40, 104);
        isDividing(again + "9,2,4,2,4,3", false, 40, 105);
        isDividing(again + "9,2,3,2,2,2", false, 40, 102);
        isDividing(again + "9,2,2,3,2,2", false, 40, 103);
        // Neither 2 and 3 nor 3 and 4 are such places, and place 0 is none.
        isDividing(again + "9,1,2,3,2,5", false, 5, NONE);
        isDividing(again + "9,1,2,3,4,5", false, 5, NONE);
        isDividing(again + "7,1,1,1,1,1", false, 11, NONE);
        isDividing("0,1:7,1", false, 40, NONE);
    }

    private static void noughtIsAPart() {
        Checks.sentence("where number i is no part of number j (0 is a part of 0 alone).");
        isDividing("1:0", false, 40, NONE);
        isDividing("0,1:1,0", false, 40, 102);
        isDividing("0,1:-1,0", false, 40, 102);
        isDividing("0,1:0,1", false, 40, NONE);
        isDividing("0,0,1:1,1,0", false, 3, NONE);
        isDividing("0,0,1:1,1,0", false, 4, 204);
        // The sign of a part does not count.
        isDividing("-2:5", false, 40, NONE);
        isDividing("0,1:4,-2", false, 40, NONE);
        isDividing("0,1:-4,2", false, 40, NONE);
        isDividing("0,1:-2,4", false, 40, 102);
        isDividing("0,1:3,-2", false, 40, 102);
    }

    private static void strong() {
        Checks.sentence("STRONG likewise: of i, j from 1 on, i below j");
        isDividing(FIBONACCI, true, 40, NONE);
        // Of 2, 1, 3, 4, 7 place 0 is not asked: with place 2 it would fail.
        isDividing("1,1:2,1", true, 3, NONE);
        isDividing("1,1:2,1", true, 4, 204);
        // By j, then i: places 1 and 4 hold, 2 and 4 as well, 3 and 4 fail; then 1 and 4 fail.
        isDividing("0,0,0,0,0,1:9,1,1,5,5,1", true, 40, 304);
        isDividing("0,0,0,0,0,1:9,2,2,4,1,2", true, 40, 104);
        isDividing("0,0,0,0,0,1:9,1,2,2,1,1", true, 40, 203);
        isDividing("4,-4:0,2", true, 2, NONE);
        isDividing("4,-4:0,2", true, 3, 203);
    }

    private static void strongSizes() {
        Checks.sentence("where the greatest common part of both numbers is not the size of that of the place"
                + " that is the greatest common part of i and j.");
        isDividing("-1,1:0,1", true, 40, NONE);
        isDividing("1,1:0,-7", true, 40, NONE);
        isDividing("3,-2:0,1", true, 40, NONE);
        isDividing("0,1:6,-2", true, 40, NONE);
        isDividing("0,1:-6,2", true, 40, NONE);
        // With 0 all of the other number is common; of 0 and 0 it is 0.
        isDividing("0,1:0,5", true, 40, NONE);
        isDividing("1:0", true, 40, NONE);
        isDividing("0,1:1,0", true, 40, 102);
        isDividing("0,0,1:1,1,0", true, 40, 204);
        isDividing("0,0,1:0,1,0", true, 2, NONE);
        isDividing("0,0,1:0,1,0", true, 3, 203);
        // 4 and 6 share 2, that is no size of 1.
        isDividing("0,0,0,1:5,1,4,6", true, 3, 203);
    }

    private static void dividingSpent() {
        Checks.sentence("EXACT numbers, SPENT as EXACT of N.");
        isDividing("10:1", false, 17, NONE);
        isDividing("10:1", false, 18, SPENT);
        isDividing("-10:-1", false, 17, NONE);
        isDividing("-10:-1", false, 18, SPENT);
        isDividing("10:1", true, 17, 203);
        isDividing("10:1", true, 18, SPENT);
        isDividing("10:1", true, 40, SPENT);
        // A pair lies ahead of the place that is beyond.
        isDividing("10,7:2,1", false, 2, NONE);
        isDividing("10,7:2,3", false, 2, 102);
        isDividing("10,7:2,3", false, 40, SPENT);
    }

    private static boolean isPrime(int p) {
        int parts = 0;
        for (int i = 1; i <= p; i++) {
            parts += p % i == 0 ? 1 : 0;
        }
        return parts == 2;
    }

    private static void partedBy() {
        Checks.sentence("PARTED by p: the LAW's polynomial by p (a prime, 2 to 97)");
        CarriedRows rows = Checks.with("1:0");
        for (int p = -3; p <= 130; p++) {
            Checks.due("parted by " + p, rows.parted(0, p, 0), p <= 97 && isPrime(p) ? 1 : BAD);
        }
        for (int p : new int[] {LEAST, MOST, 1009}) {
            Checks.due("parted by " + p, rows.parted(0, p, 0), BAD);
        }
        isParted("2,1", 2, 2, 1, 1);
        isParted("97,1", 97, 2, 1, 2);
        isParted("97,-1", 97, 2, 1, 2);
        isParted("-97,102", 97, 1, 2, 1);
    }

    private static void partsAsOften() {
        Checks.sentence("has how many parts that can't be parted, each as often as it goes in");
        isParted("6,-15,20,-15,6,-1", 97, 6, 1, 1);
        isParted("6,-15,20,-15,6,-1", 2, 6, 1, 1);
        isParted("6,-15,20,-15,6,-1", 5, 6, 1, 1);
        isParted("0,0,0,0,0,1", 7, 6, 1, 6);
        isParted("0,0,0,0,0,1", 3, 6, 1, 2);
        isParted("0,0,0,0,0,1", 5, 4, 2, 4);
        isParted("0,0,0,0,0,1", 2, 4, 2, 2);
        isParted("0,1,0,1", 2, 2, 2, 1);
        isParted("1,0,1,0,1,1", 2, 3, 2, 1);
        isParted("0,0,0,1,0,1", 2, 2, 3, 1);
        isParted("1,1,1,1,1,1", 2, 2, 3, 2);
        isParted("2,1,0,1,1,2", 3, 4, 2, 4);
    }

    /** One part alone, of each degree. */
    private static void degrees() {
        Checks.sentence("the sum of their degrees is k.");
        isParted("5", 97, 1, 1, 1);
        isParted("1,1", 2, 1, 2, 1);
        isParted("1,0,1", 2, 1, 3, 1);
        isParted("0,0,1,1", 2, 1, 4, 1);
        isParted("0,0,1,0,1", 2, 1, 5, 1);
        isParted("0,0,0,0,1,1", 2, 1, 6, 1);
        // zz - 5 and zzz - 5: 5 is no square by 97, and no third power.
        isParted("0,5", 97, 1, 2, 1);
        isParted("0,0,5", 97, 1, 3, 1);
        isParted("0,0,0,0,0,5", 97, 1, 6, 1);
        // (z + 1)(zzzzz + zzzz + zz + z + 1)
        isParted("0,1,1,0,0,1", 2, 2, 5, 2);
    }

    // ---- BAD, NO, NONE, FULL

    /** A text with a fault, forty numbers by 5, rows of all kinds. */
    private static CarriedRows busy() {
        CarriedRows rows = Checks.with(FIBONACCI, "10:1", FAR, "2,-6:7,-8", "100000,1,1:0,0,1000000", "1:0");
        Checks.put(rows, "1,2,-3:4,");
        rows.prime(5);
        for (int i = 0; i < 40; i++) {
            rows.add(i * i % 5);
        }
        return rows;
    }

    private static void refused(String call, ToLongFunction<CarriedRows> put, long want) {
        Checks.refused(call, EdgesOfPartsTest::busy, put, want);
    }

    private static void badBeforeNo() {
        Checks.sentence("BAD: a number is none that is told. NO: not as things stand.");
        refused("take(0)", rows -> rows.take(0), NO);
        refused("take(6)", rows -> rows.take(6), BAD);
        refused("back(3, 1, 10)", rows -> rows.back(3, 1, 10), NO);
        refused("back(3, 0, 10)", rows -> rows.back(3, 0, 10), BAD);
        refused("back(3, 1, 1000001)", rows -> rows.back(3, 1, 1000001), BAD);
        refused("back(6, 1, 10)", rows -> rows.back(6, 1, 10), BAD);
        refused("parted(3, 3, 0)", rows -> rows.parted(3, 3, 0), NO);
        refused("parted(3, 3, 3)", rows -> rows.parted(3, 3, 3), BAD);
        refused("parted(3, 6, 0)", rows -> rows.parted(3, 6, 0), BAD);
        refused("parted(6, 3, 0)", rows -> rows.parted(6, 3, 0), BAD);
    }

    private static void badBeforeNone() {
        Checks.sentence("NONE: there is none.");
        refused("first(1, 1000, 3)", rows -> rows.first(1, 1000, 3), NONE);
        refused("first(1, 1000, 1000)", rows -> rows.first(1, 1000, 1000), BAD);
        refused("roots(0, 7, 0)", rows -> rows.roots(0, 7, 0), NONE);
        refused("roots(0, 8, 0)", rows -> rows.roots(0, 8, 0), BAD);
        refused("roots(0, 7, -2)", rows -> rows.roots(0, 7, -2), BAD);
        refused("longest(1, 2, 4)", rows -> rows.longest(1, 2, 4), NONE);
        refused("longest(1, 4, 4)", rows -> rows.longest(1, 4, 4), BAD);
        refused("longest(0, 2, 4)", rows -> rows.longest(0, 2, 4), BAD);
        refused("longest(1, 2, 5)", rows -> rows.longest(1, 2, 5), BAD);
        refused("least(41)", rows -> rows.least(41), NONE);
        refused("least(-1)", rows -> rows.least(-1), BAD);
        refused("breaks(6)", rows -> rows.breaks(6), BAD);
        refused("dividing(0, true, 40)", rows -> rows.dividing(0, true, 40), NONE);
        refused("dividing(0, true, 41)", rows -> rows.dividing(0, true, 41), BAD);
    }

    private static void badBeforeFull() {
        Checks.sentence("NONE: there is none. FULL. Of several the first in this order");
        refused("add(0)", rows -> rows.add(0), FULL);
        refused("add(5)", rows -> rows.add(5), BAD);
        refused("add(-1)", rows -> rows.add(-1), BAD);
        refused("make(0, 0, 2, 0, 0)", rows -> rows.make(0, 0, 2, 0, 0), FULL);
        refused("make(6, 0, 2, 0, 0)", rows -> rows.make(6, 0, 2, 0, 0), BAD);
        refused("make(0, 0, 2, 6, 0)", rows -> rows.make(0, 0, 2, 6, 0), BAD);
        refused("make(0, 8, 2, 0, 0)", rows -> rows.make(0, 8, 2, 0, 0), BAD);
        refused("make(0, 5, 2, 0, 0)", rows -> rows.make(0, 5, 2, 0, 0), FULL);
        refused("make(0, 4, 4, 0, 2)", rows -> rows.make(0, 4, 4, 0, 2), FULL);
        refused("make(0, 4, 4, 0, 7)", rows -> rows.make(0, 4, 4, 0, 7), BAD);
        refused("make(0, 6, 4, 0, 1000)", rows -> rows.make(0, 6, 4, 0, 1000), FULL);
        refused("make(0, 6, 4, 0, 1001)", rows -> rows.make(0, 6, 4, 0, 1001), BAD);
        refused("make(0, 7, 4, 0, 1000)", rows -> rows.make(0, 7, 4, 0, 1000), FULL);
        refused("make(0, 7, 4, 0, 1001)", rows -> rows.make(0, 7, 4, 0, 1001), BAD);
        CarriedRows rows = new CarriedRows();
        for (int i = 0; i < 25; i++) {
            rows.write(4, 0);
        }
        Checks.due("write(1)", rows.write(1, 0), FULL);
        Checks.due("write(0)", rows.write(0, 0), BAD);
        Checks.due("write(9)", rows.write(9, 0), BAD);
    }

    private static void badBeforeSpent() {
        Checks.sentence("BAD: a number is none that is told.");
        refused("exact(1, 18)", rows -> rows.exact(1, 18), -1000000000000000005L);
        refused("exact(1, 2001)", rows -> rows.exact(1, 2001), -1000000000000000000L);
        refused("round(2, 97, 0)", rows -> rows.round(2, 97, 0), SPENT);
        refused("round(2, 97, 3)", rows -> rows.round(2, 97, 3), BAD);
        refused("first(2, 97, 0)", rows -> rows.first(2, 97, 0), SPENT);
        refused("first(2, 97, 97)", rows -> rows.first(2, 97, 97), BAD);
        refused("same(4, 4)", rows -> rows.same(4, 4), SPENT);
        refused("same(4, 6)", rows -> rows.same(4, 6), BAD);
        refused("dividing(1, false, 18)", rows -> rows.dividing(1, false, 18), SPENT);
        refused("dividing(1, false, 41)", rows -> rows.dividing(1, false, 41), BAD);
    }

    private static void nothingChanges() {
        Checks.sentence("Of several the first in this order; nothing changes then.");
        for (int n : new int[] {LEAST, -1, 0, 9, MOST}) {
            refused("write(" + n + ")", rows -> rows.write(n, '7'), BAD);
        }
        for (int none : new int[] {LEAST, -1, 6, MOST}) {
            refused("take(" + none + ")", rows -> rows.take(none), BAD);
            refused("told(" + none + ", 0, 0)", rows -> rows.told(none, 0, 0), -10000000);
            refused("told(0, 1, " + none + ")", rows -> rows.told(0, 1, none), -10000000);
            refused("told(0, 2, " + none + ")", rows -> rows.told(0, 2, none), -10000000);
            refused("exact(" + none + ", 0)", rows -> rows.exact(none, 0), -1000000000000000000L);
            refused("rest(" + none + ", 0, 2)", rows -> rows.rest(none, 0, 2), BAD);
            refused("prime(" + none + ")", rows -> rows.prime(none), BAD);
            refused("add(" + none + ")", rows -> rows.add(none), BAD);
            refused("count(" + none + ")", rows -> rows.count(none), BAD);
            refused("make(" + none + ", 7, 0, 0, 2)", rows -> rows.make(none, 7, 0, 0, 2), BAD);
            refused("make(0, 7, " + none + ", 0, 2)", rows -> rows.make(0, 7, none, 0, 2), BAD);
            refused("make(0, 3, 0, " + none + ", 2)", rows -> rows.make(0, 3, 0, none, 2), BAD);
            refused("same(" + none + ", 0)", rows -> rows.same(none, 0), BAD);
            refused("same(0, " + none + ")", rows -> rows.same(0, none), BAD);
        }
    }

    /** Calls that are answered and yet change nothing, those that use the same rows of numbers among them. */
    private static void askingChangesNothing() {
        Checks.sentence("Nothing is promised beyond the answers and state changes described above");
        refused("fault()", rows -> rows.fault(), 9);
        refused("told(3, 1, 2)", rows -> rows.told(3, 1, 2), -6);
        refused("exact(0, 83)", rows -> rows.exact(0, 83), 99194853094755497L);
        refused("rest(0, 1000000000, 10)", rows -> rows.rest(0, 1000000000, 10), 5);
        refused("round(0, 1000, 1)", rows -> rows.round(0, 1000, 1), 1500);
        refused("first(0, 10, 9)", rows -> rows.first(0, 10, 9), 11);
        refused("back(0, 2, 10)", rows -> rows.back(0, 2, 10), 9);
        refused("roots(0, 5, 0)", rows -> rows.roots(0, 5, 0), 3);
        refused("longest(3, 7, 0)", rows -> rows.longest(3, 7, 0), 36);
        refused("least(0)", rows -> rows.least(0), 3);
        refused("breaks(0)", rows -> rows.breaks(0), 2);
        refused("next()", rows -> rows.next(), 0);
        refused("same(0, 0)", rows -> rows.same(0, 0), 1);
        refused("dividing(0, false, 40)", rows -> rows.dividing(0, false, 40), NONE);
        refused("parted(0, 5, 2)", rows -> rows.parted(0, 5, 2), 1);
        refused("count(2)", rows -> rows.count(2), 2 + 1 + 6 + 2 + 3 + 1);
    }

    // ---- promises

    private static void dividing() {
        Checks.sentence("DIVIDING (strong = false), STRONG to N: 100 i + j. NONE; BAD; SPENT.");
        isDividing("0,1:1,2", false, 40, 102);
        isDividing("4,-4:0,2", false, 40, NONE);
        isDividing("4,-4:0,2", true, 40, 203);
        isDividing("0,0,0,2,-2:1,-1,-2,-1,-2", false, 40, 2040);
        isDividing("10:1", false, 41, BAD);
        isDividing("10:1", true, 1, BAD);
    }

    private static void parted() {
        Checks.sentence("PARTED by p: how many parts (what = 0), the greatest degree (1), how many unlike ones (2)."
                + " BAD; NO: p goes into ck.");
        CarriedRows rows = Checks.with(FIBONACCI, "1,-97:1,1");
        for (int what : new int[] {-1, 3, LEAST, MOST}) {
            Checks.due("what " + what, rows.parted(0, 5, what), BAD);
            Checks.due("BAD before NO, what " + what, rows.parted(1, 97, what), BAD);
        }
        isParted("1,-97", 97, NO, NO, NO);
        isParted("1,97", 97, NO, NO, NO);
        isParted("1,99910", 97, NO, NO, NO);
        isParted("1,-2", 2, NO, NO, NO);
        isParted("6", 3, NO, NO, NO);
        isParted("1,1,1,1,1,10", 5, NO, NO, NO);
        // The other numbers of the law are not asked.
        isParted("97,5", 97, 1, 2, 1);
        isParted("0,0,0,0,5,1", 5, 4, 2, 4);
    }

    private static void count() {
        Checks.sentence("How many: 0 bytes of THE TEXT, 1 NUMBERS, 2 ORDERS of all REGISTERS together. BAD.");
        CarriedRows rows = new CarriedRows();
        Checks.due("bytes of none", rows.count(0), 0);
        Checks.due("numbers of none", rows.count(1), 0);
        Checks.due("orders at first", rows.count(2), 6);
        for (int what : new int[] {-1, 3, LEAST, MOST}) {
            Checks.due("what " + what, rows.count(what), BAD);
        }
        Checks.put(rows, FAR);
        for (int r = 0; r < 6; r++) {
            rows.take(r);
        }
        for (int i = 0; i < 40; i++) {
            rows.add(1);
        }
        Checks.due("orders at most", rows.count(2), 36);
        Checks.due("numbers at most", rows.count(1), 40);
        Checks.due("bytes", rows.count(0), 23);
        for (int i = 0; i < 77; i++) {
            rows.write(1, 0);
        }
        Checks.due("bytes at most", rows.count(0), 100);
    }
}
