/** Promises 19 and 20: make, same. */
public final class MadeTest {
    private static final String FIBONACCI = "1,1:0,1";

    private MadeTest() {
    }

    public static void main(String[] args) {
        bad();
        sums();
        sumsAtTheirEdge();
        placeByPlace();
        powersAtTheirEdge();
        fold();
        foldAtItsEdge();
        each();
        sumsSoFar();
        moved();
        times();
        ontoItself();
        same();
        sameAtItsEdge();
        Checks.finish("MadeTest");
    }

    private static CarriedRows two(String x, String y) {
        CarriedRows rows = new CarriedRows();
        Checks.row(rows, 0, x);
        Checks.row(rows, 1, y);
        Checks.row(rows, 5, "9,8:7,6");
        return rows;
    }

    /** Makes register 5 of registers 0 and 1. */
    private static void isMade(int what, String x, String y, int d, String made) {
        CarriedRows rows = two(x, y);
        String call = "promise 19: make " + what + " of " + x + " and " + y + " and " + d;
        Checks.due(call, rows.make(5, what, 0, 1, d), made.split(":")[0].split(",").length);
        Checks.isRow(call, rows, 5, made);
        Checks.isRow(call + ": x stays", rows, 0, x);
        Checks.isRow(call + ": y stays", rows, 1, y);
    }

    private static void isFull(int what, String x, String y, int d) {
        CarriedRows rows = two(x, y);
        String call = "promise 19: make " + what + " of " + x + " and " + y + " and " + d;
        Checks.due(call, rows.make(5, what, 0, 1, d), CarriedRows.FULL);
        Checks.isRow(call + ": the register stays", rows, 5, "9,8:7,6");
    }

    private static void isBad(int to, int what, int x, int y, int d) {
        CarriedRows rows = two("1,2,3,4,5,6:1,2,3,4,5,6", "1,2,3,4,5,6:1,2,3,4,5,6");
        Checks.due("promise 19: make(" + to + ", " + what + ", " + x + ", " + y + ", " + d + ")",
                rows.make(to, what, x, y, d), CarriedRows.BAD);
    }

    private static void bad() {
        isBad(6, 0, 0, 1, 0);
        isBad(-1, 0, 0, 1, 0);
        isBad(5, 8, 0, 1, 0);
        isBad(5, -1, 0, 1, 0);
        for (int what = 0; what < 8; what++) {
            isBad(5, what, 6, 1, 2);
            isBad(5, what, -1, 1, 2);
        }
        for (int what = 0; what < 4; what++) {
            isBad(5, what, 0, 6, 2);
            isBad(5, what, 0, -1, 2);
        }
        isBad(5, 4, 0, 1, 1);
        isBad(5, 4, 0, 1, 7);
        isBad(5, 6, 0, 1, -1);
        isBad(5, 6, 0, 1, 1001);
        isBad(5, 7, 0, 1, -1001);
        isBad(5, 7, 0, 1, 1001);
        CarriedRows rows = two(FIBONACCI, "2:1");
        Checks.due("promise 19: d is not asked", rows.make(5, 0, 0, 1, 5000), 3);
        Checks.due("promise 19: y is not asked", rows.make(5, 4, 0, 99, 2), 2);
        Checks.due("promise 19: neither is asked", rows.make(5, 5, 0, -99, -99), 3);
    }

    private static void sums() {
        // (z to the 2 less z less 1)(z less 2)
        isMade(0, FIBONACCI, "2:1", 0, "3,-1,-2:1,3,5");
        isMade(1, FIBONACCI, "2:1", 0, "3,-1,-2:-1,-1,-3");
        isMade(1, "2:1", FIBONACCI, 0, "3,-1,-2:1,1,3");
        isMade(0, "2:1", "2:1", 0, "4,-4:2,4");
        isMade(0, "1,0,1:1,2,3", "1,1,-1:1,0,0", 0, "2,0,-1,0,-1,1:2,2,3,3,5,7");
    }

    private static void sumsAtTheirEdge() {
        isFull(0, "1,0,1:1,2,3", "1,1,1,1:1,2,3,4", 0);
        isFull(1, "1,1,1,1,1,1:0,0,0,0,0,0", "1:0", 0);
        isMade(0, "99999:0", "1:0", 0, "100000,-99999:0,0");
        isFull(0, "99999:0", "2:0", 0);
        isMade(0, "-99999:0", "-1:0", 0, "-100000,-99999:0,0");
        isFull(1, "-99999:0", "-2:0", 0);
        isMade(1, "1000:0", "-100:0", 0, "900,100000:0,0");
        isFull(1, "1000:0", "-101:0", 0);
        isFull(0, "100000:0", "-100000:0", 0);
        isMade(0, "1:999999", "-1:1", 0, "0,1:1000000,999998");
        isFull(0, "1:999999", "-1:2", 0);
        isFull(0, "1:999999", "-1:-2", 0);
        isMade(1, "1:-999999", "-1:1", 0, "0,1:-1000000,-999998");
        isFull(1, "1:-999999", "-1:2", 0);
        // The numbers of x and y on the way may be above 1000000, if those of the sum are not.
        isMade(1, "0,0,300:1000000,1,0", "0,0,300:1000000,0,0", 0, "0,0,600,0,0,-90000:0,1,0,0,300,0");
    }

    private static void placeByPlace() {
        isMade(2, FIBONACCI, FIBONACCI, 0, "1,4,1,-1:0,1,1,4");
        isMade(2, "3:2", "-5:7", 0, "-15:14");
        // Roots 1, 2 and 1, 1, -1: products 1, 1, -1, 2, 2, -2.
        isMade(2, "3,-2:0,1", "1,1,-1:1,0,1", 0, "3,3,-15,6,12,-8:0,0,3,0,15,0");
        // All six roots are cube roots of 1, each twice.
        isMade(2, "0,1:1,2", "0,0,1:1,2,3", 0, "0,0,0,0,0,1:1,4,3,2,2,6");
        isFull(2, "1,1:1,2", "1,1,1,1:1,2,3,4", 0);
        isFull(2, "1,1,1,1,1,1:0,0,0,0,0,0", "1,1:0,0", 0);
        isMade(2, "1:1000", "1:1000", 0, "1:1000000");
        isFull(2, "1:1000", "1:1001", 0);
        isFull(2, "-1:1000", "1:-1001", 0);
        // A number above 1000000 does not harm beside a nought.
        isMade(2, "31:1000000", "1,1:0,0", 0, "31,961:0,0");
        isFull(2, "31:1000000", "1,1:0,1", 0);
    }

    private static void powersAtTheirEdge() {
        // Of z to the 2 less 31622 z less 24558 the sum of squares of the roots is 1000000000.
        isMade(2, "1:1", "31622,24558:0,1", 0, "31622,24558:0,1");
        isFull(2, "1:1", "31622,24559:0,1", 0);
        isMade(2, "31622,24558:0,1", "1:1", 0, "31622,24558:0,1");
        isFull(2, "31622,24559:0,1", "1:1", 0);
        isMade(2, "-1:1", "31622,24558:0,1", 0, "-31622,24558:0,-1");
        isMade(2, "1:1", "31623,-7065:0,1", 0, "31623,-7065:0,1");
        isFull(2, "1:1", "31623,-7064:0,1", 0);
        // The sum of third powers is less than 0.
        isMade(2, "1:1", "-999,1,1:0,0,1", 0, "-999,1,1:0,0,1");
        isFull(2, "1:1", "-1001,1,1:0,0,1", 0);
        isFull(2, "-10:1", "200,1,1:0,0,1", 0);
        // Of both alone the sums are not above, but of what is made.
        isMade(2, "10:1", "3162,1:0,1", 0, "31620,100:0,10");
        isFull(2, "10:1", "4000,1:0,1", 0);
        // A law that would be beyond is FULL before all sums of powers are.
        isFull(2, "400:1", "300:1", 0);
        isMade(2, "400:1", "-250:1", 0, "-100000:1");
        isMade(2, "400:1", "250:1", 0, "100000:1");
        isFull(2, "401:1", "250:1", 0);
        isFull(2, "-401:1", "250:1", 0);
    }

    private static void fold() {
        isMade(3, FIBONACCI, "1:1", 0, "2,0,-1:0,1,2");
        isMade(3, "2:1", "3:1", 0, "5,-6:1,5");
        isMade(3, FIBONACCI, FIBONACCI, 0, "2,1,-2,-1:0,0,1,2");
        isMade(3, "1,0,0,0,1:1,2,3,4,5", "-2:-1", 0, "-1,2,0,0,1,2:-1,0,-3,2,-9,12");
        isFull(3, "1,1,1:1,2,3", "1,1,1,1:1,2,3,4", 0);
        isMade(3, "1:1000", "-1:1000", 0, "0,1:1000000,0");
        isFull(3, "1:1000", "-1:1001", 0);
        isFull(3, "1:1000", "1:1000", 0);
    }

    /** Place 5 is 1000 (or less 1000) and multiples of 100000000000000000 that meet. */
    private static void foldAtItsEdge() {
        String y = "1000,0,0,0,1,-1000:1000,0,0,0,0,1000";
        isMade(3, "1000:100", "0,0,0,0,1:10,-10000,0,0,0", 0, y);
        isFull(3, "1000:100", "0,0,0,0,1:11,-11000,0,0,0", 0);
        isFull(3, "1000:100", "0,0,0,0,1:-11,11000,0,0,0", 0);
        // Each product is 1000000000000000000 at most, but the sum goes 1000 beyond.
        isFull(3, "1000:100", "0,0,0,0,-1:10,-10000,0,0,0", 0);
        isFull(3, "1000:100", "0,0,0,0,-1:-10,10000,0,0,0", 0);
        isMade(3, "1000:100", "0,0,0,0,-1:9,-9000,0,0,0", 0, "1000,0,0,0,-1,1000:900,0,0,0,0,-900");
        // From the other end the two great ones come first and meet.
        isMade(3, "0,0,0,0,-1:10,-10000,0,0,0", "1000:100", 0, "1000,0,0,0,-1,1000:1000,0,0,0,0,-1000");
        // Place 5 of 200 to the n times 1000000 is SPENT, though it is told times nought.
        isMade(3, "100:1000000", "0,0,0,0,1:0,0,0,0,0", 0, "100,0,0,0,1,-100:0,0,0,0,0,0");
        isFull(3, "200:1000000", "0,0,0,0,1:0,0,0,0,0", 0);
        isFull(3, "0,0,0,0,1:0,0,0,0,0", "200:1000000", 0);
    }

    private static void each() {
        isMade(4, FIBONACCI, "1:0", 2, "3,-1:0,1");
        isMade(4, FIBONACCI, "1:0", 3, "4,1:0,2");
        isMade(4, FIBONACCI, "1:0", 6, "18,-1:0,8");
        isMade(4, "-3:5", "1:0", 5, "-243:5");
        isMade(4, "0,1:7,9", "1:0", 2, "2,-1:7,7");
        isMade(4, "0,0,0,0,0,1:1,2,3,4,5,6", "1:0", 4, "0,0,2,0,0,-1:1,5,3,1,5,3");
        isMade(4, "0,0,0,0,0,1:1,2,3,4,5,6", "1:0", 5, "0,0,0,0,0,1:1,6,5,4,3,2");
        // The sum of fourth powers of the roots of the first is just below 1000000000.
        isMade(4, "177,147:0,1", "1:0", 2, "31623,-21609:0,177");
        isFull(4, "177,148:0,1", "1:0", 2);
        isFull(4, "179,-208:0,1", "1:0", 2);
        isMade(4, "10:1", "1:0", 5, "100000:1");
        isFull(4, "11:1", "1:0", 5);
        isFull(4, "-11:1", "1:0", 5);
        // Its law would be 99854, -1.
        isFull(4, "316,-1:0,0", "1:0", 2);
    }

    private static void sumsSoFar() {
        isMade(5, FIBONACCI, "1:0", 0, "2,0,-1:0,1,2");
        isMade(5, "2,-1:3,1", "1:0", 0, "3,-3,1:3,4,3");
        isMade(5, "1:7", "1:0", 0, "2,-1:7,14");
        isMade(5, "0,0,0,0,1:1,2,3,4,5", "1:0", 0, "1,0,0,0,1,-1:1,3,6,10,15,16");
        isFull(5, "1,1,1,1,1,1:0,0,0,0,0,0", "1:0", 0);
        isMade(5, "99999:0", "1:0", 0, "100000,-99999:0,0");
        isFull(5, "100000:0", "1:0", 0);
        isFull(5, "0,1:1000000,-1", "1:0", 0);
        isMade(5, "0,-1:1000000,-1", "1:0", 0, "1,-1,1:1000000,999999,-1");
        isFull(5, "0,-1:1000000,1", "1:0", 0);
        isFull(5, "0,-1:-1000000,-1", "1:0", 0);
    }

    private static void moved() {
        isMade(6, FIBONACCI, "1:0", 0, "1,1:0,1");
        isMade(6, FIBONACCI, "1:0", 1, "1,1:1,1");
        isMade(6, FIBONACCI, "1:0", 29, "1,1:514229,832040");
        isFull(6, FIBONACCI, "1:0", 30);
        isFull(6, FIBONACCI, "1:0", 1000);
        isMade(6, "-1:5", "1:0", 1000, "-1:5");
        isMade(6, "0,0,0,0,0,-1:1,2,3,4,5,6", "1:0", 1000, "0,0,0,0,0,-1:5,6,-1,-2,-3,-4");
        isMade(6, "-1:5", "1:0", 999, "-1:-5");
    }

    private static void times() {
        isMade(7, "1,1:0,1000", "1:0", -1000, "1,1:0,-1000000");
        isMade(7, "1,1:0,-1000", "1:0", 1000, "1,1:0,-1000000");
        isFull(7, "1,1:0,1001", "1:0", 1000);
        isFull(7, "1,1:1000000,0", "1:0", 2);
        isMade(7, "1,1:1000000,7", "1:0", 0, "1,1:0,0");
        isMade(7, "1,1:1000000,7", "1:0", 1, "1,1:1000000,7");
    }

    private static void ontoItself() {
        for (int what = 0; what < 8; what++) {
            int d = what == 4 ? 2 : 1;
            CarriedRows rows = two("1,1:2,3", "3,-1:1,2");
            rows.make(5, what, 0, 1, d);
            rows.make(4, what, 1, 0, d);
            String call = "promise 19: make onto itself " + what;
            CarriedRows first = two("1,1:2,3", "3,-1:1,2");
            Checks.due(call + ", x", first.make(0, what, 0, 1, d), rows.told(5, 0, 0));
            CarriedRows second = two("3,-1:1,2", "1,1:2,3");
            Checks.due(call + ", y", second.make(1, what, 0, 1, d), rows.told(4, 0, 0));
            for (int n = 0; n < 10; n++) {
                Checks.due(call + ", x, place " + n, first.exact(0, n), rows.exact(5, n));
                Checks.due(call + ", y, place " + n, second.exact(1, n), rows.exact(4, n));
            }
        }
    }

    private static void isSame(String x, String y, int want) {
        CarriedRows rows = two(x, y);
        Checks.due("promise 20: same of " + x + " and " + y, rows.same(0, 1), want);
        Checks.due("promise 20: same of " + y + " and " + x, rows.same(1, 0), want);
    }

    private static void same() {
        isSame(FIBONACCI, FIBONACCI, 1);
        isSame(FIBONACCI, "2,0,-1:0,1,1", 1);
        isSame(FIBONACCI, "2,0,-1:0,1,2", 0);
        isSame("2:1", "3,-2:1,2", 1);
        isSame("2:1", "3,-2:1,3", 0);
        isSame("2:3", "3:2", 0);
        isSame("2:3", "3:3", 0);
        isSame("5:0", "7,7,7,7,7,7:0,0,0,0,0,0", 1);
        CarriedRows rows = new CarriedRows();
        Checks.due("promise 20: x 6", rows.same(6, 0), CarriedRows.BAD);
        Checks.due("promise 20: x -1", rows.same(-1, 0), CarriedRows.BAD);
        Checks.due("promise 20: y 6", rows.same(0, 6), CarriedRows.BAD);
        Checks.due("promise 20: y -1", rows.same(0, -1), CarriedRows.BAD);
        Checks.due("promise 20: new ones", rows.same(0, 5), 1);
    }

    private static void sameAtItsEdge() {
        // They part at the last place that is looked at, the twelfth.
        isSame("0,0,0,0,0,1:0,0,0,0,0,0", "0,0,0,0,0,1:0,0,0,0,0,1", 0);
        isSame("1,0,0,0,0,-1:1,1,1,1,1,1", "0,0,0,0,0,1:1,1,1,1,1,1", 0);
        // Place 4 is above 10 to the 16, place 5 above 10 to the 17.
        String risen = "100000,1,1:0,0,1000000";
        isSame(risen, risen, CarriedRows.SPENT);
        isSame(risen, "100000,1,1:0,1,1000000", 0);
        isSame(risen, "100000,2,1:0,0,1000000", 0);
        isSame(risen, "100000,1,2:0,0,1000000", CarriedRows.SPENT);
        isSame(risen, "100000,1:0,0", 0);
        // Of one alone place 5 is SPENT; all ahead of it are alike.
        isSame("0,0,0,0,0,100000:0,0,0,0,0,10", "100:0", 0);
        isSame("100000,100000,1:1000000,-1000000,1", "100000,-1:1000000,-1000000", 0);
        isSame("0,100000:0,1000000", "0,100000:0,1000000", 1);
    }
}
