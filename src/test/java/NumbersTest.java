/** Promises 14 to 18: prime, add, least, breaks, next. */
public final class NumbersTest {
    private NumbersTest() {
    }

    public static void main(String[] args) {
        prime();
        add();
        least();
        leastOfSeveral();
        forty();
        breaks();
        next();
        Checks.finish("NumbersTest");
    }

    private static void put(CarriedRows rows, int p, int... numbers) {
        int were = rows.count(1);
        Checks.due("promise 14: prime(" + p + ")", rows.prime(p), were);
        for (int i = 0; i < numbers.length; i++) {
            Checks.due("add " + numbers[i], rows.add(numbers[i]), i + 1);
        }
    }

    private static void isLaw(String call, CarriedRows rows, int... law) {
        Checks.due("promise 16: L of " + call, rows.least(0), law.length);
        for (int i = 1; i <= law.length; i++) {
            Checks.due("promise 16: c" + i + " of " + call, rows.least(i), law[i - 1]);
        }
        Checks.due("promise 16: none above L, " + call, rows.least(law.length + 1), CarriedRows.NONE);
    }

    private static void prime() {
        CarriedRows rows = new CarriedRows();
        int[] primes = {2, 3, 5, 7, 11, 13, 17, 19, 23, 29, 31, 37, 41, 43, 47, 53, 59, 61, 67, 71, 73, 79, 83,
            89, 97};
        int at = 0;
        for (int p = -3; p <= 103; p++) {
            boolean isOne = at < primes.length && primes[at] == p;
            at += isOne ? 1 : 0;
            rows.prime(2);
            rows.add(1);
            Checks.due("promise 14: prime(" + p + ")", rows.prime(p), isOne ? 1 : CarriedRows.BAD);
            Checks.due("promise 14: how many are left", rows.count(1), isOne ? 0 : 1);
            if (isOne) {
                Checks.due("promise 15: add(p)", rows.add(p), CarriedRows.BAD);
                Checks.due("promise 15: add(p - 1)", rows.add(p - 1), 1);
                Checks.due("promise 15: add(p - 1)", rows.add(p - 1), 2);
                Checks.due("promise 14: how many there were", rows.prime(p), 2);
            }
        }
        Checks.due("promise 14: all primes", at, primes.length);
        put(rows, 5, 1, 2);
        Checks.due("promise 14: BAD", rows.prime(9), CarriedRows.BAD);
        Checks.due("promise 14: p stays", rows.add(4), 3);
        Checks.due("promise 14: p stays 5", rows.add(5), CarriedRows.BAD);
    }

    private static void add() {
        CarriedRows rows = new CarriedRows();
        Checks.due("promise 15: -1", rows.add(-1), CarriedRows.BAD);
        Checks.due("promise 15: 2 by 2", rows.add(2), CarriedRows.BAD);
        for (int i = 1; i <= 40; i++) {
            Checks.due("promise 15: how many", rows.add(i & 1), i);
        }
        Checks.due("promise 15: FULL", rows.add(0), CarriedRows.FULL);
        Checks.due("promise 15: BAD before FULL", rows.add(2), CarriedRows.BAD);
        Checks.due("promise 15: count", rows.count(1), 40);
    }

    private static void least() {
        CarriedRows rows = new CarriedRows();
        isLaw("no numbers", rows);
        Checks.due("promise 16: i -1", rows.least(-1), CarriedRows.BAD);
        Checks.due("promise 16: i far above", rows.least(Integer.MAX_VALUE), CarriedRows.NONE);
        put(rows, 7, 0, 0, 0);
        isLaw("noughts", rows);
        put(rows, 7, 3, 1, 5, 4, 6);
        isLaw("5 to the n", rows, 5);
        put(rows, 97, 0, 1, 1, 2, 3, 5, 8, 13);
        isLaw("Fibonacci", rows, 1, 1);
        put(rows, 2, 1, 0, 0, 0);
        isLaw("1 and noughts, cL is 0", rows, 0);
        put(rows, 3, 1, 2, 1, 1);
        isLaw("four that no two carry", rows, 0, 0, 1);
    }

    private static void leastOfSeveral() {
        CarriedRows rows = new CarriedRows();
        put(rows, 5, 4);
        isLaw("a single one", rows, 0);
        put(rows, 5, 0, 0, 3);
        isLaw("a number at the end", rows, 0, 0, 0);
        put(rows, 5, 0, 1, 2, 3, 4);
        isLaw("a law that is due", rows, 2, 4);
        // Two places are due of three numbers of the law.
        put(rows, 5, 0, 1, 2, 3, 3);
        isLaw("c1 free, the others due", rows, 0, 3, 2);
        // 1 is c1 times 1 and c2 times 0.
        put(rows, 5, 0, 1, 1);
        isLaw("c1 due, c2 free", rows, 1, 0);
        // 1 is c1 times 2; c2 and c3 count nought.
        put(rows, 7, 0, 0, 2, 1);
        isLaw("of three numbers one is due", rows, 4, 0, 0);
        put(rows, 7, 0, 1, 0, 1);
        isLaw("c1 free by one line, due by the other", rows, 0, 1);
        put(rows, 7, 1, 1, 0);
        isLaw("both in one line", rows, 0, 0);
        put(rows, 7, 1, 1, 0, 3);
        isLaw("both are due", rows, 4, 3);
        put(rows, 7, 0, 1, 1, 0, 3);
        isLaw("the lesser c1 of several", rows, 0, 0, 3);
    }

    private static void forty() {
        CarriedRows rows = new CarriedRows();
        rows.prime(97);
        for (int i = 1; i < 40; i++) {
            rows.add(0);
        }
        rows.add(96);
        Checks.due("promise 16: L is 40", rows.least(0), 40);
        Checks.due("promise 16: c40", rows.least(40), 0);
        Checks.due("promise 16: c41", rows.least(41), CarriedRows.NONE);
        Checks.due("promise 18: by noughts", rows.next(), 0);
        rows.prime(97);
        for (int i = 0; i < 40; i++) {
            rows.add(i * i % 97);
        }
        isLaw("squares", rows, 3, 94, 1);
        Checks.due("promise 18: the next square", rows.next(), 1600 % 97);
    }

    private static void breaks() {
        CarriedRows rows = new CarriedRows();
        Checks.due("promise 17: no numbers", rows.breaks(0), CarriedRows.NONE);
        Checks.due("promise 17: register 6", rows.breaks(6), CarriedRows.BAD);
        Checks.due("promise 17: register -1", rows.breaks(-1), CarriedRows.BAD);
        Checks.row(rows, 3, "1,1:-10,11");
        put(rows, 5, 0, 1, 1, 2, 3, 0, 3, 3);
        Checks.due("promise 17: not broken", rows.breaks(3), CarriedRows.NONE);
        rows.add(2);
        Checks.due("promise 17: broken at the last", rows.breaks(3), 8);
        rows.add(0);
        Checks.due("promise 17: the first place", rows.breaks(3), 8);
        put(rows, 5, 1, 1);
        Checks.due("promise 17: broken at a start", rows.breaks(3), 0);
        put(rows, 5, 0, 2);
        Checks.due("promise 17: broken at the second start", rows.breaks(3), 1);
        Checks.row(rows, 3, "1,1,1,1,1,-1:0,-1,2,3,4,5");
        put(rows, 5, 0, 4, 2, 3);
        Checks.due("promise 17: fewer numbers than starts", rows.breaks(3), CarriedRows.NONE);
    }

    private static void next() {
        CarriedRows rows = new CarriedRows();
        Checks.due("promise 18: no numbers", rows.next(), CarriedRows.NONE);
        put(rows, 7, 0, 0);
        Checks.due("promise 18: noughts", rows.next(), 0);
        put(rows, 7, 1, 3, 2);
        Checks.due("promise 18: 3 to the n", rows.next(), 6);
        put(rows, 97, 0, 1, 1, 2, 3, 5, 8, 13, 21, 34, 55);
        Checks.due("promise 18: Fibonacci", rows.next(), 89);
        rows.add(89);
        Checks.due("promise 18: by the prime", rows.next(), 144 - 97);
        Checks.due("promise 18: nothing changes", rows.count(1), 12);
    }
}
