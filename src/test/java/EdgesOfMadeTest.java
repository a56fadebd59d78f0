/** The boundaries that the document names, sentence by sentence: its heading 4, promises 19 and 20. */
public final class EdgesOfMadeTest {
    private static final int LEAST = Integer.MIN_VALUE;
    private static final int MOST = Integer.MAX_VALUE;
    private static final int BAD = CarriedRows.BAD;
    private static final int SPENT = CarriedRows.SPENT;
    private static final String OTHER = "4,-3,9:8,-7,6";
    private static final String FIBONACCI = "1,1:0,1";
    /** The six roots of 1, each once. */
    private static final String RING = "0,0,0,0,0,1:1,2,3,4,5,6";

    private EdgesOfMadeTest() {
    }

    public static void main(String[] args) {
        rootsAsOften();
        sumAndDifference();
        placeByPlace();
        fold();
        each();
        sumsSoFar();
        moved();
        times();
        spentStarts();
        spentOnTheWay();
        orders();
        powersOfXAndY();
        powersOfXOrYAlone();
        powersOfWhatIsMade();
        powersOfEach();
        powersBetween();
        products();
        sumsOfProducts();
        make();
        makeOntoItself();
        same();
        samePlaces();
        sameSpent();
        Checks.finish("EdgesOfMadeTest");
    }

    private static void isFull(int what, String x, String y, int d) {
        Checks.refused("make " + what + " of " + x + " and " + y + " and " + d, () -> Checks.with(x, y, OTHER),
                rows -> rows.make(2, what, 0, 1, d), CarriedRows.FULL);
    }

    private static void isMade(int what, String x, String y, int d, String made) {
        CarriedRows rows = Checks.with(x, y, OTHER);
        String call = "make " + what + " of " + x + " and " + y + " and " + d;
        Checks.due(call, rows.make(2, what, 0, 1, d), made.split(":")[0].split(",").length);
        Checks.dueTo(call, Checks.row(rows, 2), made);
        Checks.dueTo(call + ", x", Checks.row(rows, 0), x);
        Checks.dueTo(call + ", y", Checks.row(rows, 1), y);
    }

    private static void isBad(int to, int what, int x, int y, int d) {
        Checks.refused("make(" + to + ", " + what + ", " + x + ", " + y + ", " + d + ")",
                () -> Checks.with(RING, RING, OTHER), rows -> rows.make(to, what, x, y, d), BAD);
    }

    // ---- terms

    private static void rootsAsOften() {
        Checks.sentence("its ROOTS are counted as often as they are roots");
        isMade(2, "2,-1:0,1", "3:1", 0, "6,-9:0,3");
        isMade(2, "2,-1:0,1", "2,-1:0,1", 0, "4,-6,4,-1:0,1,4,9");
        isMade(4, "2,-1:0,1", "1:0", 3, "2,-1:0,3");
        isMade(4, "4,-4:0,1", "1:0", 2, "8,-16:0,4");
        // 1 and -1: both squares are 1.
        isMade(4, "0,1:7,9", "1:0", 2, "2,-1:7,7");
        isMade(2, "0,1:1,2", "0,1:1,3", 0, "0,2,0,-1:1,6,1,6");
    }

    private static void sumAndDifference() {
        Checks.sentence("0 the sum, 1 x less y: the product of both polynomials.");
        isMade(0, "2:3", "3:4", 0, "5,-6:7,18");
        isMade(1, "2:3", "3:4", 0, "5,-6:-1,-6");
        isMade(1, "3:4", "2:3", 0, "5,-6:1,6");
        isMade(0, "2:3", "2:3", 0, "4,-4:6,12");
        isMade(1, "2:3", "2:3", 0, "4,-4:0,0");
        isMade(0, "1:999999", "-1:1", 0, "0,1:1000000,999998");
        isFull(0, "1:999999", "-1:2", 0);
        isFull(0, "1:999999", "-1:-2", 0);
        isMade(0, "1:-999999", "-1:-1", 0, "0,1:-1000000,-999998");
        isFull(0, "1:-999999", "-1:-2", 0);
        isMade(1, "1:-999999", "-1:1", 0, "0,1:-1000000,-999998");
        isFull(1, "1:-999999", "-1:2", 0);
        isFull(1, "1:999999", "-1:-2", 0);
        // The last of the starts alone is beyond.
        isMade(0, "0,0,1:0,0,500000", "0,0,1:0,0,500000", 0, "0,0,2,0,0,-1:0,0,1000000,0,0,1000000");
        isFull(0, "0,0,-1:0,0,-500000", "0,0,1:0,0,500001", 0);
    }

    private static void placeByPlace() {
        Checks.sentence("2 PLACE BY PLACE, the product: that whose ROOTS are all products of a ROOT of x and one of y.");
        isMade(2, "3:2", "-5:7", 0, "-15:14");
        isMade(2, FIBONACCI, FIBONACCI, 0, "1,4,1,-1:0,1,1,4");
        isMade(2, "1:1000", "1:1000", 0, "1:1000000");
        isFull(2, "1:1000", "1:1001", 0);
        isMade(2, "1:-1000", "1:1000", 0, "1:-1000000");
        isFull(2, "1:-1000", "1:1001", 0);
        isMade(2, "400:1", "250:1", 0, "100000:1");
        isFull(2, "401:1", "250:1", 0);
        isMade(2, "400:1", "-250:1", 0, "-100000:1");
        isFull(2, "401:1", "-250:1", 0);
        // A place beyond 1000000 times nought.
        isMade(2, "31:1000000", "1,1:0,0", 0, "31,961:0,0");
        isFull(2, "31:1000000", "1,1:0,1", 0);
    }

    private static void fold() {
        Checks.sentence("3 THE FOLD: place n is the sum of place i of x times place n - i of y: place 0 and on: the product of both polynomials.");
        isMade(3, "2:3", "5:7", 0, "7,-10:21,147");
        isMade(3, FIBONACCI, "1:1", 0, "2,0,-1:0,1,2");
        isMade(3, "1,0,0,0,1:1,2,3,4,5", "-2:-1", 0, "-1,2,0,0,1,2:-1,0,-3,2,-9,12");
        isMade(3, "1:1000", "-1:1000", 0, "0,1:1000000,0");
        isFull(3, "1:1000", "-1:1001", 0);
        isFull(3, "1:1000", "1:1000", 0);
        isFull(3, "1:-1000", "1:1000", 0);
    }

    private static void each() {
        Checks.sentence("4 EACH d-th of x (d 2 to 6): that whose ROOTS are d-th powers of those of x.");
        isMade(4, RING, "1:0", 2, "0,0,2,0,0,-1:1,3,5,1,3,5");
        isMade(4, RING, "1:0", 5, "0,0,0,0,0,1:1,6,5,4,3,2");
        isMade(4, RING, "1:0", 6, "6,-15,20,-15,6,-1:1,1,1,1,1,1");
        isMade(4, FIBONACCI, "1:0", 6, "18,-1:0,8");
        isMade(4, "10:1", "1:0", 5, "100000:1");
        isFull(4, "11:1", "1:0", 5);
        isMade(4, "-10:1", "1:0", 5, "-100000:1");
        isFull(4, "-11:1", "1:0", 5);
        isMade(4, "6:1", "1:0", 6, "46656:1");
        isFull(4, "7:1", "1:0", 6);
        isMade(4, "316:1", "1:0", 2, "99856:1");
        isFull(4, "317:1", "1:0", 2);
        isMade(4, "0,316:1,0", "1:0", 2, "632,-99856:1,316");
        isFull(4, "0,317:1,0", "1:0", 2);
        for (int d : new int[] {1, 0, -1, -2, 7, LEAST, MOST}) {
            isBad(2, 4, 0, 1, d);
        }
    }

    private static void sumsSoFar() {
        Checks.sentence("5 SUMS SO FAR of x: places 0 to n: x's polynomial times (z less 1).");
        isMade(5, FIBONACCI, "1:0", 0, "2,0,-1:0,1,2");
        isMade(5, "1:7", "1:0", 0, "2,-1:7,14");
        isMade(5, "0,0,0,0,1:1,2,3,4,5", "1:0", 0, "1,0,0,0,1,-1:1,3,6,10,15,16");
        isFull(5, RING, "1:0", 0);
        // The last sum alone is beyond, or that in the midst.
        isMade(5, "0,1:500000,0", "1:0", 0, "1,1,-1:500000,500000,1000000");
        isFull(5, "0,1:500000,1", "1:0", 0);
        isMade(5, "0,-1:1000000,-1", "1:0", 0, "1,-1,1:1000000,999999,-1");
        isFull(5, "0,-1:1000000,1", "1:0", 0);
        isFull(5, "0,-1:-1000000,-1", "1:0", 0);
        // Place 2 of x is beyond a start, its sum is none such.
        isMade(5, "0,-2:600000,0", "1:0", 0, "1,-2,2:600000,600000,-600000");
        isMade(5, "-100000:0", "1:0", 0, "-99999,100000:0,0");
        isFull(5, "100000:0", "1:0", 0);
    }

    private static void moved() {
        Checks.sentence("6 MOVED by d (0 to 1000): place n of it is place n + d: x's polynomial.");
        isMade(6, RING, "1:0", 0, RING);
        isMade(6, RING, "1:0", 1, "0,0,0,0,0,1:2,3,4,5,6,1");
        isMade(6, RING, "1:0", 999, "0,0,0,0,0,1:4,5,6,1,2,3");
        isMade(6, RING, "1:0", 1000, "0,0,0,0,0,1:5,6,1,2,3,4");
        isMade(6, "-1:5", "1:0", 1000, "-1:5");
        isMade(6, FIBONACCI, "1:0", 29, "1,1:514229,832040");
        isFull(6, FIBONACCI, "1:0", 30);
        isFull(6, FIBONACCI, "1:0", 1000);
        for (int d : new int[] {-1, 1001, LEAST, MOST}) {
            isBad(2, 6, 0, 1, d);
        }
    }

    private static void times() {
        Checks.sentence("7 TIMES d (-1000 to 1000).");
        isMade(7, "1,1:7,1000", "1:0", 1000, "1,1:7000,1000000");
        isMade(7, "1,1:7,1000", "1:0", -1000, "1,1:-7000,-1000000");
        isMade(7, "1,1:1000000,-7", "1:0", 0, "1,1:0,0");
        isMade(7, "1,1:1000000,-7", "1:0", -1, "1,1:-1000000,7");
        isFull(7, "1,1:7,1001", "1:0", 1000);
        isFull(7, "1,1:7,1001", "1:0", -1000);
        isFull(7, "1,1:500001,0", "1:0", 2);
        isFull(7, "1,1:1000000,1000000", "1:0", 1000);
        for (int d : new int[] {-1001, 1001, LEAST, MOST}) {
            isBad(2, 7, 0, 1, d);
        }
    }

    /** What is beyond a start is FULL, and SPENT ones far more; those of x and y are told up to 10 to the 17. */
    private static void spentStarts() {
        Checks.sentence("STARTS are the first numbers (SPENT ones are FULL");
        isFull(6, "1000:1", "1:0", 5);
        isFull(6, "1000:1", "1:0", 6);
        isFull(6, "65536:1", "1:0", 4);
        isFull(6, "65536:1", "1:0", 1000);
        isMade(1, "0,0,300:1000000,1,0", "0,0,300:1000000,0,0", 0, "0,0,600,0,0,-90000:0,1,0,0,300,0");
    }

    private static void spentOnTheWay() {
        Checks.sentence("those of x and y on the way, too)");
        String noughts = "0,0,0,0,1:0,0,0,0,0";
        // Place 5 counts nought times: of 1000 to the n times 100 it is 10 to the 17.
        isMade(3, "1000:100", noughts, 0, "1000,0,0,0,1,-1000:0,0,0,0,0,0");
        isMade(3, "1000:-100", noughts, 0, "1000,0,0,0,1,-1000:0,0,0,0,0,0");
        isMade(3, noughts, "1000:100", 0, "1000,0,0,0,1,-1000:0,0,0,0,0,0");
        isFull(3, "1000:101", noughts, 0);
        isFull(3, "1000:-101", noughts, 0);
        isFull(3, noughts, "1000:101", 0);
        isFull(3, noughts, "-1000:101", 0);
        // Place 5 is 10 to the 17, and 1000000 more.
        isMade(3, "0,0,1:0,0,0", "4641,4099,6361:0,0,1000000", 0, "4641,4099,6362,-4641,-4099,-6361:0,0,0,0,0,0");
        isFull(3, "0,0,1:0,0,0", "4641,4099,6362:0,0,1000000", 0);
    }

    private static void orders() {
        Checks.sentence("ORDER above 6 is FULL.");
        String[] zeros = {"1:0", "1,1:0,0", "1,1,1:0,0,0", "1,1,1,1:0,0,0,0", "1,1,1,1,1:0,0,0,0,0", "1,1,1,1,1,1:0,0,0,0,0,0"};
        for (int x = 1; x <= 6; x++) {
            for (int y = 1; y <= 6; y++) {
                CarriedRows rows = Checks.with(zeros[x - 1], zeros[y - 1]);
                for (int what : new int[] {0, 1, 3}) {
                    Checks.due("make " + what + " of orders " + x + " and " + y, rows.make(2, what, 0, 1, 0),
                            x + y > 6 ? CarriedRows.FULL : x + y);
                }
                Checks.due("make 2 of orders " + x + " and " + y, rows.make(2, 2, 0, 1, 0),
                        x * y > 6 ? CarriedRows.FULL : x * y);
            }
            CarriedRows rows = Checks.with(zeros[x - 1]);
            Checks.due("make 4 of order " + x, rows.make(2, 4, 0, 0, 2), x);
            Checks.due("make 5 of order " + x, rows.make(2, 5, 0, 0, 2), x == 6 ? CarriedRows.FULL : x + 1);
            Checks.due("make 6 of order " + x, rows.make(2, 6, 0, 0, 2), x);
            Checks.due("make 7 of order " + x, rows.make(2, 7, 0, 0, 2), x);
        }
    }

    private static void powersOfXAndY() {
        Checks.sentence("Of 2 and 4 it is FULL, too, if sums of powers of ROOTS are above 1000000000 in size:"
                + " of 2 of x, of y and of what is MADE");
        // Of the roots of zz - 31622 z - 24558 the sum of squares is 10 to the 9; the third powers are not asked.
        isMade(2, "31622,24558:0,1", "1:1", 0, "31622,24558:0,1");
        isFull(2, "31622,24559:0,1", "1:1", 0);
        isMade(2, "1:1", "31622,24558:0,1", 0, "31622,24558:0,1");
        isFull(2, "1:1", "31622,24559:0,1", 0);
        isMade(2, "1:1", "31623,-7065:0,1", 0, "31623,-7065:0,1");
        // 10 to the 9 and 1.
        isFull(2, "1:1", "31623,-7064:0,1", 0);
        isFull(2, "31623,-7064:0,1", "1:1", 0);
        // The third powers come to less 10 to the 9, and 3 less.
        isMade(2, "1:1", "-1000,1,1000:0,0,1", 0, "-1000,1,1000:0,0,1");
        isFull(2, "1:1", "-1000,1,999:0,0,1", 0);
        isMade(2, "-1000,1,1000:0,0,1", "1:1", 0, "-1000,1,1000:0,0,1");
        isFull(2, "-1000,1,999:0,0,1", "1:1", 0);
    }

    /** The sixth powers of the roots of zz - 2 z + 2 come to 0: what is made has nought, the other row has not. */
    private static void powersOfXOrYAlone() {
        Checks.sentence("all j-th powers, j from 1 to the ORDER that is MADE");
        String made = "58,-1682,-9648,-25600,-58880,-67712:0,0,0,0,0,0";
        isMade(2, "2,-2:0,0", "29,80,92:0,0,0", 0, made);
        isMade(2, "29,80,92:0,0,0", "2,-2:0,0", 0, made);
        isFull(2, "2,-2:0,0", "29,80,93:0,0,0", 0);
        isFull(2, "29,80,93:0,0,0", "2,-2:0,0", 0);
        isFull(2, "2,-2:0,0", "-29,80,-93:0,0,0", 0);
        isFull(2, "2,-2:0,0", "32,-1,32:0,0,0", 0);
    }

    private static void powersOfWhatIsMade() {
        Checks.sentence("of 2 of x, of y and of what is MADE, of 4 of x alone");
        // 4 times 250000000, 4 times 250000001.
        isMade(2, "2:1", "15810,21950:0,1", 0, "31620,87800:0,2");
        isFull(2, "2:1", "15811,6140:0,1", 0);
        isMade(2, "15810,21950:0,1", "2:1", 0, "31620,87800:0,2");
        isFull(2, "15811,6140:0,1", "2:1", 0);
        // 1000 times less 1000000, 1000 times less 1000003.
        isMade(2, "10:1", "-100,1,100:0,0,1", 0, "-1000,100,100000:0,0,100");
        isFull(2, "10:1", "-100,1,99:0,0,1", 0);
        // Of what EACH makes the powers are above, its law and that of x are not.
        isMade(4, "177,147:0,1", "1:0", 2, "31623,-21609:0,177");
        isMade(4, "0,0,0,0,0,-6:0,0,0,0,0,1", "1:0", 6, "-36,-540,-4320,-19440,-46656,-46656:0,0,0,0,0,0");
    }

    private static void powersOfEach() {
        Checks.sentence("(of 4 to d times it)");
        // Ninth powers: 10 to the 9, and 2 more; the tenth are far above.
        isMade(4, "10,4,-40:0,0,1", "1:0", 3, "1000,64,-64000:0,10,10416");
        isMade(4, "-10,4,40:0,0,1", "1:0", 3, "-1000,64,64000:0,-10,10416");
        isFull(4, "9,9,10:0,0,1", "1:0", 3);
        isFull(4, "-9,9,-10:0,0,1", "1:0", 3);
        isFull(4, "12,-21,10:0,0,1", "1:0", 3);
        isFull(4, "177,148:0,1", "1:0", 2);
    }

    /** The d-th powers, the 2 d-th and so on are not above, but one between them. */
    private static void powersBetween() {
        Checks.sentence("all j-th powers, j from 1 to the ORDER that is MADE (of 4 to d times it).");
        isMade(4, "5,-39,5,18:0,0,0,0", "1:0", 3, "-445,-57225,15515,5832:0,0,0,0");
        isFull(4, "10,-38,-19,38:0,0,0,0", "1:0", 3);
        isFull(4, "-10,-38,19,38:0,0,0,0", "1:0", 3);
        isFull(4, "-8,-71,-125,8,71,126:0,0,0,0,0,0", "1:0", 2);
        isFull(4, "-6,-14,7,14:0,0,0,0", "1:0", 4);
        isFull(4, "-5,-5,9,2:0,0,0,0", "1:0", 5);
        isFull(4, "-2,-5,3,5:0,0,0,0", "1:0", 6);
    }

    private static void products() {
        Checks.sentence("Of 3 it is FULL, too, if a product of two numbers");
        // Place 5 of x times place 0 of y is 10 to the 18, all together is 0.
        isMade(3, "1000:100", "0,0,0,0,1:10,-10000,0,0,0", 0, "1000,0,0,0,1,-1000:1000,0,0,0,0,1000");
        isMade(3, "1000:100", "0,0,0,0,1:-10,10000,0,0,0", 0, "1000,0,0,0,1,-1000:-1000,0,0,0,0,-1000");
        // 14 times 71428571428571429 is 10 to the 18 and 6, all sums are 10 to the 18 at most.
        isMade(3, "999,1000:71,71429", "0,0,0,1:13,-12987,-13000,0", 0, "999,1000,0,1,-999,-1000:923,6500,0,0,923,6500");
        isFull(3, "999,1000:71,71429", "0,0,0,1:14,-13986,-14000,0", 0);
        isFull(3, "999,1000:71,71429", "0,0,0,1:-14,13986,14000,0", 0);
        isFull(3, "999,1000:-71,-71429", "0,0,0,1:14,-13986,-14000,0", 0);
        isFull(3, "0,0,0,1:14,-13986,-14000,0", "999,1000:71,71429", 0);
        // Beyond 64 bits: 10 to the 17 times 1000.
        isFull(3, "1000:100", "0,0,0,0,1:1000,-1000000,0,0,0", 0);
    }

    private static void sumsOfProducts() {
        Checks.sentence("or a sum of such from the first on, is above 1000000000000000000 (10 to the 18) in size.");
        // Behind five products: less 10 to the 18, and 1 more or less.
        String x = "1000:1";
        isMade(3, x, "0,0,0,0,-1:1000,-1000000,0,0,1", 0, "1000,0,0,0,-1,1000:1000,0,0,0,1,0");
        isMade(3, x, "1,0,0,0,-1:1000,-1000000,0,0,1", 0, "1001,-1000,0,0,-1,1000:1000,0,0,0,1,1");
        isFull(3, x, "-1,0,0,0,-1:1000,-1000000,0,0,1", 0);
        isFull(3, x, "-1,0,0,0,-1:-1000,1000000,0,0,-1", 0);
        isMade(3, x, "0,0,0,0,-1:-1000,1000000,0,0,-1", 0, "1000,0,0,0,-1,1000:-1000,0,0,0,-1,0");
        // From the other end the great ones come first and meet.
        isMade(3, "-1,0,0,0,-1:1000,-1000000,0,0,1", x, 0, "999,1000,0,0,-1,1000:1000,0,0,0,1,-1");
    }

    // ---- promises

    private static void make() {
        Checks.sentence("REGISTER to becomes what is MADE of x and y (what 0 to 3; d is not asked), of x and d"
                + " (4 to 7; y is not asked): its ORDER. BAD; FULL.");
        for (int none : new int[] {-1, 6, LEAST, MOST}) {
            for (int what = 0; what < 8; what++) {
                isBad(none, what, 0, 1, 2);
                isBad(2, what, none, 1, 2);
            }
            for (int what = 0; what < 4; what++) {
                isBad(2, what, 0, none, 2);
            }
        }
        for (int what : new int[] {-1, 8, LEAST, MOST}) {
            isBad(2, what, 0, 1, 2);
        }
        for (int any : new int[] {-1, 0, 7, LEAST, MOST}) {
            CarriedRows rows = Checks.with("2:3", "3:4");
            Checks.due("the sum, d is not asked", rows.make(2, 0, 0, 1, any), 2);
            Checks.due("x less y, d is not asked", rows.make(2, 1, 0, 1, any), 2);
            Checks.due("place by place, d is not asked", rows.make(2, 2, 0, 1, any), 1);
            Checks.due("the fold, d is not asked", rows.make(2, 3, 0, 1, any), 2);
            Checks.due("each, y is not asked", rows.make(2, 4, 0, any, 2), 1);
            Checks.due("sums, neither is asked", rows.make(2, 5, 0, any, any), 2);
            Checks.due("moved, y is not asked", rows.make(2, 6, 0, any, 2), 1);
            Checks.due("times, y is not asked", rows.make(2, 7, 0, any, 2), 1);
        }
    }

    private static void makeOntoItself() {
        Checks.sentence("REGISTER to becomes what is MADE of x and y");
        CarriedRows rows = Checks.with("2:3", "3:4", "1,1:5,6");
        rows.make(0, 0, 0, 1, 0);
        Checks.dueTo("the sum onto x", Checks.row(rows, 0), "5,-6:7,18");
        rows.make(1, 1, 2, 1, 0);
        Checks.dueTo("x less y onto y", Checks.row(rows, 1), "4,-2,-3:1,-6,-25");
        rows.make(2, 3, 2, 2, 0);
        Checks.dueTo("the fold of one with itself onto it", Checks.row(rows, 2), "2,1,-2,-1:25,60,146,302");
        rows.make(0, 4, 0, 0, 2);
        Checks.dueTo("each second onto itself", Checks.row(rows, 0), "13,-36:7,48");
        rows.make(0, 5, 0, 0, 0);
        Checks.dueTo("sums so far onto themselves", Checks.row(rows, 0), "14,-49,36:7,55,427");
        rows.make(0, 6, 0, 0, 1);
        Checks.dueTo("moved onto itself", Checks.row(rows, 0), "14,-49,36:55,427,3535");
        rows.make(0, 7, 0, 0, -1);
        Checks.dueTo("times onto itself", Checks.row(rows, 0), "14,-49,36:-55,-427,-3535");
    }

    private static void isSame(String x, String y, int want) {
        CarriedRows rows = Checks.with(x, y);
        Checks.due("same of " + x + " and " + y, rows.same(0, 1), want);
        Checks.due("same of " + y + " and " + x, rows.same(1, 0), want);
    }

    private static void same() {
        Checks.sentence("1: two ROWS have the same numbers at all places; 0");
        isSame(FIBONACCI, FIBONACCI, 1);
        isSame(FIBONACCI, "2,0,-1:0,1,1", 1);
        isSame("2:1", "3,-2:1,2", 1);
        isSame("5:0", "7,7,7,7,7,7:0,0,0,0,0,0", 1);
        isSame("5:0", "7,7,7,7,7,7:0,0,0,0,0,1", 0);
        isSame("5:1", "5:-1", 0);
        CarriedRows rows = Checks.with("2:1", "3:1");
        for (int r : new int[] {-1, 6, LEAST, MOST}) {
            Checks.due("same(" + r + ", 0)", rows.same(r, 0), BAD);
            Checks.due("same(1, " + r + ")", rows.same(1, r), BAD);
            Checks.due("same(" + r + ", " + r + ")", rows.same(r, r), BAD);
        }
        Checks.due("a register and itself", rows.same(1, 1), 1);
    }

    private static void samePlaces() {
        Checks.sentence("looked for at as many places as both ORDERS together, one by one.");
        // They part at the last of these places: the second, the third, the twelfth.
        isSame("2:3", "3:3", 0);
        isSame("2:1", "1,1:1,2", 0);
        isSame("0,0,0,0,0,1:1,0,0,0,0,0", "0,0,0,0,1,1:1,0,0,0,0,0", 0);
        isSame("0,0,0,0,0,1:1,0,0,0,0,0", "0,0,0,0,0,1:1,0,0,0,0,0", 1);
        // They part at the first alone, and are alike at all others that are looked at.
        isSame("2:3", "3:2", 0);
        isSame("0,0,0,0,0,1:0,0,0,0,0,1", "-1,0,0,0,0,1:1,0,0,0,0,1", 0);
    }

    private static void sameSpent() {
        Checks.sentence("SPENT: one is not told EXACT, all ahead are alike.");
        // Place 5, the last that is looked at, is 10 to the 17; with the other law it is 1000000 more.
        String told = "4641,4099,6361:0,0,1000000";
        String spent = "4641,4099,6362:0,0,1000000";
        isSame(told, told, 1);
        isSame(told, spent, SPENT);
        isSame(spent, spent, SPENT);
        isSame("-4641,4099,-6361:0,0,1000000", "-4641,4099,-6361:0,0,1000000", 1);
        isSame("-4641,4099,-6362:0,0,1000000", "-4641,4099,-6362:0,0,1000000", SPENT);
        // Ahead of the spent one they part; at the spent one they would.
        isSame(spent, "4641,4098,6362:0,0,1000000", 0);
        isSame(spent, "4641,4099,6362:0,1,1000000", 0);
        isSame(spent, "1:0", 0);
        isSame("100000,100000,1:0,0,1000000", "100000,100000,2:0,0,1000000", SPENT);
        Checks.refused("a spent one", () -> Checks.with(spent), rows -> rows.same(0, 0), SPENT);
    }
}
