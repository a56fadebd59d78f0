/** The boundaries that the document names, sentence by sentence: its heading 2, promises 9 to 13. */
public final class EdgesOfRoundsTest {
    private static final int LEAST = Integer.MIN_VALUE;
    private static final int MOST = Integer.MAX_VALUE;
    private static final int BAD = CarriedRows.BAD;
    /** By 103 this law goes round in 99988 places, by 8 it dies out, behind 13 places at most. */
    private static final String LONG_LAW = "424,480,192,456,40,514";
    /** By 97 its round is beyond all that is told. */
    private static final String FAR = "1,1,1,1,1,1:0,0,0,0,0,1";

    private EdgesOfRoundsTest() {
    }

    public static void main(String[] args) {
        states();
        roundBy();
        tailAndRound();
        roundsAtTheirEnd();
        noughts();
        firstPlaces();
        firstOfNone();
        backPlaces();
        backThatIsNone();
        primes();
        rootsFromNought();
        longestOrders();
        longestPrimes();
        longestLaws();
        round();
        first();
        back();
        roots();
        longest();
        Checks.finish("EdgesOfRoundsTest");
    }

    private static void isRound(String text, int m, int tail, int turn, int noughts) {
        CarriedRows rows = Checks.with(text);
        Checks.due("tail of " + text + " by " + m, rows.round(0, m, 0), tail);
        Checks.due("round of " + text + " by " + m, rows.round(0, m, 1), turn);
        Checks.due("noughts of " + text + " by " + m, rows.round(0, m, 2), noughts);
    }

    private static void isFirst(String text, int m, int v, int want) {
        Checks.due("first " + v + " of " + text + " by " + m, Checks.with(text).first(0, m, v), want);
    }

    private static void isBack(String text, int n, int m, int want) {
        Checks.due("back " + n + " of " + text + " by " + m, Checks.with(text).back(0, n, m), want);
    }

    private static void areRoots(String text, int p, int... want) {
        CarriedRows rows = Checks.with(text);
        Checks.due("roots of " + text + " by " + p, rows.roots(0, p, -1), want.length);
        for (int i = 0; i < want.length; i++) {
            Checks.due("root " + i + " of " + text + " by " + p, rows.roots(0, p, i), want[i]);
        }
        Checks.due("behind the roots of " + text, rows.roots(0, p, want.length), CarriedRows.NONE);
    }

    // ---- terms

    /** A rest that comes again, or all but one of a STATE, is no STATE that comes again. */
    private static void states() {
        Checks.sentence("STATES by m are k RESTS side by side.");
        isRound("1:3", 5, 0, 1, 0);
        isRound("0,1:3,3", 5, 0, 1, 0);
        isRound("0,1:3,4", 5, 0, 2, 0);
        isRound("0,0,1:0,0,1", 5, 0, 3, 2);
        isRound("0,0,0,1:0,0,0,1", 5, 0, 4, 3);
        isRound("0,0,0,0,1:0,0,0,0,1", 5, 0, 5, 4);
        isRound("0,0,0,0,0,1:0,0,0,0,0,1", 5, 0, 6, 5);
        isRound("0,0,0,0,0,1:1,0,0,0,0,0", 5, 0, 6, 5);
        isRound("0,0,0,0,0,1:1,2,3,1,2,3", 5, 0, 3, 0);
        isRound("0,0,0,0,0,1:1,2,3,1,2,8", 5, 0, 3, 0);
        isRound("0,0,0,0,0,1:1,2,3,1,2,4", 5, 0, 6, 0);
    }

    private static void roundBy() {
        Checks.sentence("ROUND by m (2 to 1000)");
        isRound("1,1:0,1", 2, 0, 3, 1);
        isRound("1,1:0,1", 1000, 0, 1500, 2);
        isRound("1,1:0,1", 999, 0, 1368, 2);
        CarriedRows rows = Checks.with("1,1:0,1");
        for (int m : new int[] {1, 0, -1, -2, 1001, LEAST, MOST}) {
            for (int what = 0; what < 3; what++) {
                Checks.due("round(0, " + m + ", " + what + ")", rows.round(0, m, what), BAD);
            }
            Checks.due("first(0, " + m + ", 0)", rows.first(0, m, 0), BAD);
        }
    }

    private static void tailAndRound() {
        Checks.sentence("the least u and ROUND above 0 so that the STATE from place u on is that from place u and ROUND on"
                + " (first the least u, TAIL, then the least ROUND)");
        isRound("1:0", 2, 0, 1, 1);
        isRound("1:7", 1000, 0, 1, 0);
        isRound("-1:7", 1000, 0, 2, 0);
        // Of a row of one law the tail is long or short, as its starts are.
        isRound("2:1", 512, 9, 1, 1);
        isRound("2:2", 512, 8, 1, 1);
        isRound("2:256", 512, 1, 1, 1);
        isRound("2:512", 512, 0, 1, 1);
        isRound("2:1", 1000, 3, 100, 0);
        isRound("2:8", 1000, 0, 100, 0);
        isRound("0,0,0,0,0,2:0,0,0,0,0,1", 512, 54, 1, 46);
        isRound("0,0,0,0,0,2:1,0,0,0,0,0", 512, 49, 1, 41);
        isRound("1,2:0,1", 2, 1, 1, 1);
        isRound("1,2:1,1", 2, 0, 1, 0);
    }

    private static void roundsAtTheirEnd() {
        Checks.sentence("TAIL and ROUND together 100000 at most, else SPENT.");
        isRound(LONG_LAW + ":104,0,0,0,0,618", 824, 12, 99988, 1036);
        String beyond = LONG_LAW + ":1,0,0,0,0,0";
        isRound(beyond, 824, CarriedRows.SPENT, CarriedRows.SPENT, CarriedRows.SPENT);
        isFirst(beyond, 824, 1, CarriedRows.SPENT);
        isRound(LONG_LAW + ":1,0,0,0,0,0", 103, 0, 99988, 1032);
        isRound(LONG_LAW + ":1,0,0,0,0,0", 8, 13, 1, 11);
        isRound(FAR, 97, CarriedRows.SPENT, CarriedRows.SPENT, CarriedRows.SPENT);
    }

    private static void noughts() {
        Checks.sentence("NOUGHTS: of places 0 to TAIL and ROUND less 1: how many have REST 0.");
        // At the last place, at the first and not at that behind the last, at all places, at none.
        isRound("0,1:1,0", 7, 0, 2, 1);
        isRound("0,1:0,1", 7, 0, 2, 1);
        isRound("0,1:0,0", 7, 0, 1, 1);
        isRound("0,1:1,2", 7, 0, 2, 0);
        isRound("0,1:7,14", 7, 0, 1, 1);
        // In the tail alone, in the round alone.
        isRound("1,2:0,1", 2, 1, 1, 1);
        isRound("1,0,2:2,0,1", 2, 2, 1, 2);
        isRound("2:1", 4, 2, 1, 1);
    }

    private static void firstPlaces() {
        Checks.sentence("FIRST of a rest v: the least place with REST v among these");
        isFirst("0,0,0,0,0,1:4,5,6,4,5,7", 10, 4, 0);
        isFirst("0,0,0,0,0,1:4,5,6,4,5,7", 10, 5, 1);
        isFirst("0,0,0,0,0,1:4,5,6,4,5,7", 10, 7, 5);
        isFirst("0,0,0,0,0,1:4,5,6,4,5,17", 10, 7, 5);
        isFirst("0,0,0,0,0,1:4,5,6,4,5,-3", 10, 7, 5);
        isFirst("2:1", 1000, 1, 0);
        isFirst("2:1", 1000, 8, 3);
        isFirst("2:1", 1000, 504, 102);
    }

    private static void firstOfNone() {
        Checks.sentence("the least place with REST v among these; none.");
        isFirst("2:1", 1000, 0, CarriedRows.NONE);
        isFirst("1:0", 2, 1, CarriedRows.NONE);
        isFirst("1,1:0,1", 8, 4, CarriedRows.NONE);
        isFirst("1,1:0,1", 8, 6, CarriedRows.NONE);
        isFirst("1,1:0,1", 8, 7, 10);
    }

    private static void backPlaces() {
        Checks.sentence("BACK by m: REST of the place 1 less than 0, 2 less, ..: what the LAW carries on");
        String[] texts = {"3:5", "1,1:0,1", "2,-3,7:1,-2,5", "1,0,-4,3:9,0,1,7", "1,2,3,4,-7:1,0,2,0,3", "3,1,-4,1,-5,9:2,6,-5,3,5,-8"};
        for (int m : new int[] {2, 5, 1000, 999983, 1000000}) {
            for (String text : texts) {
                CarriedRows rows = Checks.with(text);
                if (rows.back(0, 1, m) == CarriedRows.NO) {
                    continue;
                }
                goesOnToItsStarts(rows, text, m);
            }
        }
        isBack("1,1:0,1", 1, 1000000, 1);
        isBack("1,1:0,1", 2, 1000000, 999999);
        isBack("-1:7", 999999, 10, 3);
        isBack("-1:7", 1000000, 10, 7);
    }

    /** Places 20 less than 0 and on: what the law makes of the first k of them is all others, and the starts. */
    private static void goesOnToItsStarts(CarriedRows rows, String text, int m) {
        int order = rows.told(0, 0, 0);
        long[] places = new long[20 + order];
        for (int n = 0; n < places.length; n++) {
            places[n] = n < 20 ? rows.back(0, 20 - n, m) : rows.rest(0, n - 20, m);
        }
        for (int n = order; n < places.length; n++) {
            long sum = 0;
            for (int i = 1; i <= order; i++) {
                sum += rows.told(0, 1, i) * places[n - i];
            }
            Checks.due("place " + (n - 20) + " of " + text + " by " + m, places[n], Math.floorMod(sum, (long) m));
        }
    }

    private static void backThatIsNone() {
        Checks.sentence("there is such, if ck has with m no common part.");
        for (String sign : new String[] {"", "-"}) {
            for (int m : new int[] {2, 3, 4, 6, 8, 9, 10, 12, 35 * 2, 35 * 3, 999999, 1000000}) {
                isBack("1," + sign + "6:1,1", 1, m, CarriedRows.NO);
            }
            isBack("5," + sign + "7:1,1", 1, 7, CarriedRows.NO);
            isBack("5," + sign + "70:1,1", 1, 7, CarriedRows.NO);
            isBack(sign + "100000:1", 1, 1000000, CarriedRows.NO);
            isBack(sign + "100000:1", 1, 2, CarriedRows.NO);
        }
        // The other numbers of the law are not asked.
        isBack("10,1:3,4", 1, 10, 4);
        isBack("10,-1:3,4", 1, 10, 6);
        isBack("1,6:1,1", 1, 35, 0);
        isBack("1,6:1,2", 1, 35, 6);
        isBack("1,-6:1,2", 1, 35, 29);
        // 99999 by 100000 and 1000000 is 1 less than 0; 100000 by 999999 has 10 over it.
        isBack("99999:1", 1, 100000, 99999);
        isBack("100000:1", 1, 999999, 10);
        isBack("1:-1", 1000000, 1000000, 999999);
    }

    private static boolean isPrime(int p) {
        int parts = 0;
        for (int i = 1; i <= p; i++) {
            parts += p % i == 0 ? 1 : 0;
        }
        return parts == 2;
    }

    private static void primes() {
        Checks.sentence("PRIMES 2 to 97 alone: ROOTS of a LAW by p");
        CarriedRows rows = Checks.with("1:1");
        for (int p = -7; p <= 130; p++) {
            Checks.due("roots by " + p, rows.roots(0, p, -1), p <= 97 && isPrime(p) ? 1 : BAD);
        }
        Checks.due("roots by the least", rows.roots(0, LEAST, -1), BAD);
        Checks.due("roots by the most, a prime", rows.roots(0, MOST, -1), BAD);
        Checks.due("roots by 1009", rows.roots(0, 1009, -1), BAD);
    }

    private static void rootsFromNought() {
        Checks.sentence("x 0 to p - 1 with x to the k the sum of ci times x to the (k - i), by p.");
        areRoots("97:1", 97, 0);
        areRoots("-1:1", 97, 96);
        areRoots("-1:1", 2, 1);
        areRoots("2:1", 2, 0);
        areRoots("-1,97:1,1", 97, 0, 96);
        areRoots("1,2:1,1", 2, 0, 1);
        areRoots("0,0,0,1,5:1,1,1,1,1", 5, 0, 1, 2, 3, 4);
        areRoots("0,0,0,1,-5:1,1,1,1,1", 5, 0, 1, 2, 3, 4);
        areRoots("0,0,0,0,0,1:1,1,1,1,1,1", 7, 1, 2, 3, 4, 5, 6);
        // A root that is one twice is told once.
        areRoots("2,-1:1,1", 97, 1);
        areRoots("1,1:0,1", 5, 3);
        areRoots("1,1:0,1", 7);
        areRoots("0,-1:0,1", 3);
    }

    private static void longestOrders() {
        Checks.sentence("LONGEST: of all laws of ORDER 1 to 3 of rests 0 to p - 1");
        CarriedRows rows = new CarriedRows();
        for (int order : new int[] {0, 4, -1, LEAST, MOST}) {
            for (int what = 0; what < 5; what++) {
                Checks.due("longest(" + order + ", 2, " + what + ")", rows.longest(order, 2, what), BAD);
            }
        }
        areLongest(1, 5, 2, 4, 2);
        areLongest(2, 5, 4, 24, 1, 3);
        areLongest(3, 5, 20, 124, 0, 1, 2);
    }

    private static void longestPrimes() {
        Checks.sentence("(p 2 to 7, ck not 0)");
        CarriedRows rows = new CarriedRows();
        for (int p : new int[] {1, 0, -2, -3, 4, 6, 8, 9, 11, 13, 97, LEAST, MOST}) {
            Checks.due("longest(1, " + p + ", 0)", rows.longest(1, p, 0), BAD);
            Checks.due("longest(3, " + p + ", 4)", rows.longest(3, p, 4), BAD);
        }
        areLongest(1, 2, 1, 1, 1);
        areLongest(1, 7, 2, 6, 3);
        areLongest(3, 2, 2, 7, 0, 1, 1);
        areLongest(3, 7, 36, 342, 0, 1, 5);
    }

    private static void areLongest(int order, int p, int laws, int turn, int... law) {
        CarriedRows rows = new CarriedRows();
        String call = "longest " + order + " by " + p;
        Checks.due(call + ", laws", rows.longest(order, p, 0), laws);
        Checks.due(call + ", round", rows.longest(order, p, 1), turn);
        for (int i = 0; i < 3; i++) {
            Checks.due(call + ", c" + (i + 1), rows.longest(order, p, 2 + i),
                    i < law.length ? law[i] : CarriedRows.NONE);
        }
    }

    /** All laws tried by the class' own rows: how many, which round, which first. */
    private static void longestLaws() {
        Checks.sentence("how many have the greatest ROUND; it; the first of them (c1, then c2, .. the lesser first)");
        for (int p : new int[] {2, 3, 5, 7}) {
            int[] best = {0, 0, 0, 0};
            for (int c1 = 0; c1 < p; c1++) {
                for (int c2 = 1; c2 < p; c2++) {
                    int turn = Checks.with(c1 + "," + c2 + ":0,1").round(0, p, 1);
                    if (turn > best[1]) {
                        best = new int[] {0, turn, c1, c2};
                    }
                    best[0] += turn == best[1] ? 1 : 0;
                }
            }
            areLongest(2, p, best[0], best[1], best[2], best[3]);
        }
    }

    // ---- promises

    private static void round() {
        Checks.sentence("TAIL (what = 0), ROUND (1), NOUGHTS (2) by m. BAD; SPENT.");
        CarriedRows rows = Checks.with("2:1", FAR);
        for (int what : new int[] {-1, 3, LEAST, MOST}) {
            Checks.due("what " + what, rows.round(0, 10, what), BAD);
            Checks.due("BAD before SPENT, what " + what, rows.round(1, 97, what), BAD);
        }
        Checks.due("what 0", rows.round(0, 1000, 0), 3);
        Checks.due("what 1", rows.round(0, 1000, 1), 100);
        Checks.due("what 2", rows.round(0, 1000, 2), 0);
        Checks.refused("a spent one", () -> Checks.with(FAR), made -> made.round(0, 97, 0), CarriedRows.SPENT);
    }

    private static void first() {
        Checks.sentence("FIRST of v by m. NONE; BAD (v 0 to m - 1); SPENT.");
        for (int m : new int[] {2, 10, 1000}) {
            isFirst("1:0", m, 0, 0);
            isFirst("1:-1", m, m - 1, 0);
            for (int v : new int[] {-1, m, m + 1, LEAST, MOST}) {
                isFirst("1:0", m, v, BAD);
            }
        }
        isFirst(FAR, 97, 97, BAD);
        isFirst(FAR, 97, -1, BAD);
        isFirst(FAR, 97, 0, CarriedRows.SPENT);
        isFirst(FAR, 97, 1, CarriedRows.SPENT);
        Checks.refused("a spent one", () -> Checks.with(FAR), made -> made.first(0, 97, 1), CarriedRows.SPENT);
        Checks.refused("none", () -> Checks.with("2:1"), made -> made.first(0, 1000, 0), CarriedRows.NONE);
    }

    private static void back() {
        Checks.sentence("BACK: the place n less than 0 (n 1 to 1000000) by m. BAD; NO: there is none.");
        isBack("1,1:0,1", 1, 2, 1);
        isBack("3:1", 1000000, 1000000, power(666667, 1000000, 1000000));
        isBack("3:1", 999999, 1000000, power(666667, 999999, 1000000));
        for (int n : new int[] {0, -1, 1000001, LEAST, MOST}) {
            isBack("1,1:0,1", n, 10, BAD);
            isBack("1,2:0,1", n, 10, BAD);
        }
        for (int m : new int[] {1, 0, -1, 1000001, LEAST, MOST}) {
            isBack("1,1:0,1", 1, m, BAD);
            isBack("1,2:0,1", 1, m, BAD);
        }
        Checks.refused("none", () -> Checks.with("1,2:0,1"), made -> made.back(0, 1, 10), CarriedRows.NO);
    }

    private static int power(long base, int n, long m) {
        long result = 1;
        for (int i = 0; i < n; i++) {
            result = result * base % m;
        }
        return (int) result;
    }

    private static void roots() {
        Checks.sentence("ROOTS by p: how many (i = -1), the i-th, the least first. NONE; BAD.");
        CarriedRows rows = Checks.with("6,-11,6:0,0,1", "1,1:0,1");
        Checks.due("how many", rows.roots(0, 97, -1), 3);
        Checks.due("the least", rows.roots(0, 97, 0), 1);
        Checks.due("the last", rows.roots(0, 97, 2), 3);
        Checks.due("behind the last", rows.roots(0, 97, 3), CarriedRows.NONE);
        Checks.due("far behind", rows.roots(0, 97, MOST), CarriedRows.NONE);
        Checks.due("i -2", rows.roots(0, 97, -2), BAD);
        Checks.due("i at the least", rows.roots(0, 97, LEAST), BAD);
        Checks.due("no root at all, how many", rows.roots(1, 7, -1), 0);
        Checks.due("no root at all", rows.roots(1, 7, 0), CarriedRows.NONE);
        Checks.due("BAD before NONE", rows.roots(1, 9, 0), BAD);
    }

    private static void longest() {
        Checks.sentence("LONGEST for an ORDER and p: how many laws (what = 0), their ROUND (1),"
                + " c1, c2, c3 of the first (2 to 4; NONE beyond ORDER). BAD.");
        CarriedRows rows = new CarriedRows();
        int none = CarriedRows.NONE;
        int[][] want = {{1, 2, 2, none, none}, {2, 8, 1, 1, none}, {4, 26, 0, 1, 2}};
        for (int order = 1; order <= 3; order++) {
            for (int what = 0; what < 5; what++) {
                Checks.due("longest(" + order + ", 3, " + what + ")", rows.longest(order, 3, what),
                        want[order - 1][what]);
            }
            for (int what : new int[] {-1, 5, LEAST, MOST}) {
                Checks.due("longest(" + order + ", 3, " + what + ")", rows.longest(order, 3, what), BAD);
            }
        }
        Checks.due("BAD before NONE", rows.longest(1, 4, 4), BAD);
        // A lesser ROUND behind a greater one.
        Checks.due("round of order 3 by 7", rows.longest(3, 7, 1), 342);
        Checks.due("laws of order 1 by 2", rows.longest(1, 2, 0), 1);
        Checks.due("round of order 1 by 2", rows.longest(1, 2, 1), 1);
        Checks.due("c1 of order 1 by 2", rows.longest(1, 2, 2), 1);
    }
}
