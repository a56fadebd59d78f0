/** Promises 9 to 13: round, first, back, roots, longest. */
public final class RoundsTest {
    private RoundsTest() {
    }

    public static void main(String[] args) {
        round();
        roundAtItsEdge();
        longTail();
        first();
        back();
        roots();
        longest();
        Checks.finish("RoundsTest");
    }

    private static void isRound(String call, CarriedRows rows, int m, int tail, int turn, int noughts) {
        Checks.due("promise 9: tail of " + call, rows.round(0, m, 0), tail);
        Checks.due("promise 9: round of " + call, rows.round(0, m, 1), turn);
        Checks.due("promise 9: noughts of " + call, rows.round(0, m, 2), noughts);
    }

    private static void round() {
        CarriedRows rows = new CarriedRows();
        isRound("a new row", rows, 2, 0, 1, 1);
        Checks.row(rows, 0, "1,1:0,1");
        isRound("Fibonacci by 1000", rows, 1000, 0, 1500, 2);
        isRound("Fibonacci by 2", rows, 2, 0, 3, 1);
        // Place 0 alone is the tail, and a nought that counts.
        Checks.row(rows, 0, "1,2:0,1");
        isRound("a tail of 1 by 2", rows, 2, 1, 1, 1);
        Checks.row(rows, 0, "2:1");
        isRound("2 to the n by 1000", rows, 1000, 3, 100, 0);
        isRound("2 to the n by 512", rows, 512, 9, 1, 1);
        Checks.due("promise 9: what 3", rows.round(0, 10, 3), CarriedRows.BAD);
        Checks.due("promise 9: what -1", rows.round(0, 10, -1), CarriedRows.BAD);
        Checks.due("promise 9: by 1", rows.round(0, 1, 0), CarriedRows.BAD);
        Checks.due("promise 9: by 1001", rows.round(0, 1001, 0), CarriedRows.BAD);
        Checks.due("promise 9: register 6", rows.round(6, 10, 0), CarriedRows.BAD);
        Checks.due("promise 9: register -1", rows.round(-1, 10, 0), CarriedRows.BAD);
    }

    /** By 103 the law goes round in 99988 places, by 8 it dies out: behind 12 places, or behind 13. */
    private static void roundAtItsEdge() {
        CarriedRows rows = new CarriedRows();
        Checks.row(rows, 0, "424,480,192,456,40,514:104,0,0,0,0,618");
        isRound("100000 places", rows, 824, 12, 99988, 1036);
        Checks.due("promise 10: place 0", rows.first(0, 824, 104), 0);
        Checks.row(rows, 0, "424,480,192,456,40,514:1,0,0,0,0,0");
        for (int what = 0; what < 3; what++) {
            Checks.due("promise 9: 100001 places", rows.round(0, 824, what), CarriedRows.SPENT);
        }
        Checks.due("promise 10: 100001 places", rows.first(0, 824, 1), CarriedRows.SPENT);
        Checks.due("promise 9: BAD before SPENT", rows.round(0, 824, 3), CarriedRows.BAD);
        Checks.due("promise 10: BAD before SPENT", rows.first(0, 824, 824), CarriedRows.BAD);
        Checks.row(rows, 0, "1,1,1,1,1,1:0,0,0,0,0,1");
        Checks.due("promise 9: far beyond", rows.round(0, 997, 2), CarriedRows.SPENT);
        Checks.due("promise 10: spent, though place 5 has it", rows.first(0, 997, 1), CarriedRows.SPENT);
    }

    private static void longTail() {
        CarriedRows rows = new CarriedRows();
        // Each sixth place is twice the one six ahead: by 512 the last 1 is at place 53.
        Checks.row(rows, 0, "0,0,0,0,0,2:0,0,0,0,0,1");
        isRound("the longest tail", rows, 512, 54, 1, 46);
        Checks.row(rows, 0, "0,0,0,0,0,2:1,0,0,0,0,0");
        isRound("a tail of 49", rows, 512, 49, 1, 41);
    }

    private static void first() {
        CarriedRows rows = new CarriedRows();
        Checks.row(rows, 0, "2:1");
        Checks.due("promise 10: place 0", rows.first(0, 1000, 1), 0);
        Checks.due("promise 10: in the tail", rows.first(0, 1000, 4), 2);
        Checks.due("promise 10: the last of the round", rows.first(0, 1000, 504), 102);
        Checks.due("promise 10: none", rows.first(0, 1000, 0), CarriedRows.NONE);
        Checks.due("promise 10: v is m", rows.first(0, 1000, 1000), CarriedRows.BAD);
        Checks.due("promise 10: v -1", rows.first(0, 1000, -1), CarriedRows.BAD);
        Checks.due("promise 10: by 1", rows.first(0, 1, 0), CarriedRows.BAD);
        Checks.due("promise 10: by 1001", rows.first(0, 1001, 0), CarriedRows.BAD);
        Checks.due("promise 10: register 6", rows.first(6, 10, 0), CarriedRows.BAD);
        Checks.due("promise 10: register -1", rows.first(-1, 10, 0), CarriedRows.BAD);
    }

    private static void back() {
        CarriedRows rows = new CarriedRows();
        Checks.row(rows, 0, "1,1:0,1");
        int[] places = {1, -1, 2, -3, 5, -8, 13, -21, 34, -55};
        for (int n = 1; n <= places.length; n++) {
            Checks.due("promise 11: back " + n, rows.back(0, n, 1000000), Math.floorMod(places[n - 1], 1000000));
        }
        Checks.row(rows, 0, "3:1");
        Checks.due("promise 11: a third by 10", rows.back(0, 1, 10), 7);
        Checks.due("promise 11: all the way back", rows.back(0, 1000000, 1000000),
                power(666667, 1000000, 1000000));
        Checks.due("promise 11: n 0", rows.back(0, 0, 10), CarriedRows.BAD);
        Checks.due("promise 11: n 1000001", rows.back(0, 1000001, 10), CarriedRows.BAD);
        Checks.due("promise 11: by 1", rows.back(0, 1, 1), CarriedRows.BAD);
        Checks.due("promise 11: by 1000001", rows.back(0, 1, 1000001), CarriedRows.BAD);
        Checks.due("promise 11: register 6", rows.back(6, 1, 10), CarriedRows.BAD);
        Checks.due("promise 11: register -1", rows.back(-1, 1, 10), CarriedRows.BAD);
        Checks.due("promise 11: 3 and 9", rows.back(0, 1, 9), CarriedRows.NO);
        Checks.due("promise 11: BAD before NO", rows.back(0, 0, 9), CarriedRows.BAD);
        Checks.row(rows, 0, "1,-6:1,1");
        Checks.due("promise 11: a part of both, not all", rows.back(0, 1, 10), CarriedRows.NO);
        // From 7 by the law 1, -6: place 1 is place 0 less 6 times the place ahead of 0.
        Checks.due("promise 11: by 7", rows.back(0, 1, 7), 0);
    }

    private static long power(long base, int n, long m) {
        long result = 1;
        for (int i = 0; i < n; i++) {
            result = result * base % m;
        }
        return result;
    }

    private static void roots() {
        CarriedRows rows = new CarriedRows();
        // (z - 1)(z - 2)(z - 3)
        Checks.row(rows, 0, "6,-11,6:0,0,1");
        Checks.due("promise 12: how many", rows.roots(0, 97, -1), 3);
        for (int i = 0; i < 3; i++) {
            Checks.due("promise 12: root " + i, rows.roots(0, 97, i), i + 1);
        }
        Checks.due("promise 12: none behind", rows.roots(0, 97, 3), CarriedRows.NONE);
        Checks.due("promise 12: none far behind", rows.roots(0, 97, Integer.MAX_VALUE), CarriedRows.NONE);
        Checks.due("promise 12: by 2, 0 and 1", rows.roots(0, 2, -1), 2);
        Checks.due("promise 12: 0 is one by 2", rows.roots(0, 2, 0), 0);
        Checks.due("promise 12: i -2", rows.roots(0, 97, -2), CarriedRows.BAD);
        int[] none = {-3, 0, 1, 4, 9, 91, 98, 101};
        for (int p : none) {
            Checks.due("promise 12: no such prime " + p, rows.roots(0, p, -1), CarriedRows.BAD);
        }
        Checks.due("promise 12: register 6", rows.roots(6, 97, -1), CarriedRows.BAD);
        Checks.due("promise 12: register -1", rows.roots(-1, 97, -1), CarriedRows.BAD);
        Checks.row(rows, 0, "-100000:1");
        Checks.due("promise 12: a law less than 0", rows.roots(0, 97, 0), Math.floorMod(-100000, 97));
    }

    private static void isLongest(int order, int p, int laws, int turn, int... law) {
        CarriedRows rows = new CarriedRows();
        String call = "promise 13: longest " + order + " by " + p;
        Checks.due(call + ", laws", rows.longest(order, p, 0), laws);
        Checks.due(call + ", round", rows.longest(order, p, 1), turn);
        for (int i = 0; i < 3; i++) {
            Checks.due(call + ", c" + (i + 1), rows.longest(order, p, 2 + i),
                    i < law.length ? law[i] : CarriedRows.NONE);
        }
    }

    private static void longest() {
        isLongest(1, 2, 1, 1, 1);
        isLongest(1, 3, 1, 2, 2);
        isLongest(1, 5, 2, 4, 2);
        isLongest(1, 7, 2, 6, 3);
        isLongest(2, 2, 1, 3, 1, 1);
        isLongest(2, 3, 2, 8, 1, 1);
        isLongest(2, 5, 4, 24, 1, 3);
        isLongest(2, 7, 8, 48, 1, 4);
        isLongest(3, 2, 2, 7, 0, 1, 1);
        isLongest(3, 3, 4, 26, 0, 1, 2);
        isLongest(3, 5, 20, 124, 0, 1, 2);
        isLongest(3, 7, 36, 342, 0, 1, 5);
        CarriedRows rows = new CarriedRows();
        Checks.due("promise 13: order 0", rows.longest(0, 2, 0), CarriedRows.BAD);
        Checks.due("promise 13: order 4", rows.longest(4, 2, 0), CarriedRows.BAD);
        int[] none = {1, 4, 6, 8, 11};
        for (int p : none) {
            Checks.due("promise 13: by " + p, rows.longest(1, p, 0), CarriedRows.BAD);
        }
        Checks.due("promise 13: what 5", rows.longest(1, 2, 5), CarriedRows.BAD);
        Checks.due("promise 13: what -1", rows.longest(1, 2, -1), CarriedRows.BAD);
    }
}
