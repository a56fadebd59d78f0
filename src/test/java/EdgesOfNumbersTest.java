import java.util.Arrays;

/** The boundaries that the document names, sentence by sentence: its heading 3, promises 14 to 18. */
public final class EdgesOfNumbersTest {
    private static final int LEAST = Integer.MIN_VALUE;
    private static final int MOST = Integer.MAX_VALUE;
    private static final int BAD = CarriedRows.BAD;
    private static final int NONE = CarriedRows.NONE;

    private EdgesOfNumbersTest() {
    }

    public static void main(String[] args) {
        primes();
        forty();
        leastSpan();
        spanOfAllNumbers();
        leastOfSeveral();
        breaksFromNought();
        prime();
        add();
        least();
        breaks();
        next();
        Checks.finish("EdgesOfNumbersTest");
    }

    private static CarriedRows numbers(int p, int... numbers) {
        CarriedRows rows = new CarriedRows();
        rows.prime(p);
        for (int i = 0; i < numbers.length; i++) {
            Checks.due("add(" + numbers[i] + ")", rows.add(numbers[i]), i + 1);
        }
        return rows;
    }

    private static String told(int p, int... numbers) {
        StringBuilder told = new StringBuilder("by " + p + ":");
        for (int v : numbers) {
            told.append(' ').append(v);
        }
        return told.toString();
    }

    private static void isLaw(int[] law, int p, int... numbers) {
        isLaw(new CarriedRows(), law, p, numbers);
    }

    private static void isLaw(CarriedRows rows, int[] law, int p, int... numbers) {
        rows.prime(p);
        for (int v : numbers) {
            rows.add(v);
        }
        String call = told(p, numbers);
        Checks.due("L " + call, rows.least(0), law.length);
        for (int i = 1; i <= law.length; i++) {
            Checks.due("c" + i + " " + call, rows.least(i), law[i - 1]);
        }
        Checks.due("c" + (law.length + 1) + " " + call, rows.least(law.length + 1), NONE);
    }

    private static int[] law(int... law) {
        return law;
    }

    /** What the law tells of place n. */
    private static int carried(int[] law, int[] numbers, int n, int p) {
        int sum = 0;
        for (int i = 1; i <= law.length; i++) {
            sum += law[i - 1] * numbers[n - i];
        }
        return sum % p;
    }

    private static boolean carries(int[] law, int[] numbers, int p) {
        for (int n = law.length; n < numbers.length; n++) {
            if (carried(law, numbers, n, p) != numbers[n]) {
                return false;
            }
        }
        return true;
    }

    /** All laws are tried, those with the lesser L first, then those with the lesser c1, c2 and on. */
    private static int[] leastByTrying(int[] numbers, int p) {
        for (int span = 0;; span++) {
            int laws = 1;
            for (int i = 0; i < span; i++) {
                laws *= p;
            }
            for (int code = 0; code < laws; code++) {
                int[] law = new int[span];
                for (int i = span - 1, left = code; i >= 0; i--, left /= p) {
                    law[i] = left % p;
                }
                if (carries(law, numbers, p)) {
                    return law;
                }
            }
        }
    }

    // ---- terms

    private static boolean isPrime(int p) {
        int parts = 0;
        for (int i = 1; i <= p; i++) {
            parts += p % i == 0 ? 1 : 0;
        }
        return parts == 2;
    }

    private static void primes() {
        Checks.sentence("NUMBERS are a row of rests by a prime p (2 to 97), 40 at most.");
        for (int p = -3; p <= 130; p++) {
            CarriedRows rows = numbers(7, 6, 5, 4);
            boolean isTold = p <= 97 && isPrime(p);
            Checks.due("prime(" + p + ")", rows.prime(p), isTold ? 3 : BAD);
            Checks.due("numbers behind prime(" + p + ")", rows.count(1), isTold ? 0 : 3);
            Checks.due("add of what is none", rows.add(isTold ? p : 7), BAD);
            Checks.due("add of the greatest", rows.add(isTold ? p - 1 : 6), isTold ? 1 : 4);
        }
        for (int p : new int[] {LEAST, MOST, 1009, 98, 101, 91, 1, 0}) {
            Checks.refused("prime(" + p + ")", () -> numbers(7, 6, 5, 4), rows -> rows.prime(p), BAD);
        }
    }

    private static int[] many(int size, int others, int last) {
        int[] many = new int[size];
        Arrays.fill(many, others);
        many[size - 1] = last;
        return many;
    }

    private static void forty() {
        Checks.sentence("40 at most.");
        CarriedRows rows = numbers(97, many(39, 96, 0));
        Checks.due("the fortieth", rows.add(96), 40);
        Checks.refused("the forty-first", () -> numbers(97, many(40, 96, 0)), full -> full.add(0), CarriedRows.FULL);
        Checks.refused("the forty-first, none at all", () -> numbers(97, many(40, 96, 0)), full -> full.add(97), BAD);
        Checks.due("forty were", numbers(97, many(40, 96, 0)).prime(2), 40);
        isLaw(many(40, 0, 0), 97, many(40, 0, 96));
        isLaw(law(0, 1), 97, alternating(40));
    }

    private static int[] alternating(int size) {
        int[] all = new int[size];
        for (int i = 0; i < size; i++) {
            all[i] = i % 2 == 0 ? 5 : 90;
        }
        return all;
    }

    private static void leastSpan() {
        Checks.sentence("THE LEAST LAW: the least L (0: all are 0) with c1 .. cL (rests) by which each of NUMBERS"
                + " from place L on is carried on;");
        isLaw(law(), 2);
        isLaw(law(), 2, 0);
        isLaw(law(), 97, many(40, 0, 0));
        isLaw(law(1), 7, 3, 3);
        isLaw(law(1), 7, many(40, 3, 3));
        isLaw(law(5), 7, 3, 1);
        isLaw(law(0), 7, 3, 0, 0, 0);
        isLaw(law(0, 1), 7, 3, 5, 3, 5);
        isLaw(law(1, 1), 7, 0, 1, 1, 2, 3, 5, 1, 6, 0);
        isLaw(law(0, 0), 7, 3, 4, 0, 0);
        // The rests of less than 0, not that itself.
        isLaw(law(6), 7, 1, 6, 1);
        isLaw(law(96), 97, 1, 96, 1);
    }

    private static void spanOfAllNumbers() {
        Checks.sentence("(0: all are 0)");
        isLaw(law(0), 7, 1);
        isLaw(law(0, 0), 7, 0, 1);
        isLaw(law(0, 0, 0), 7, 0, 0, 1);
        isLaw(law(0, 0, 0, 0, 0, 0), 7, 0, 0, 0, 0, 0, 6);
        isLaw(law(0, 0), 2, 0, 1);
        isLaw(law(0, 0), 2, 0, 1, 0);
        isLaw(law(1, 0), 2, 0, 1, 1);
        // Behind another law no number of that is left.
        CarriedRows rows = new CarriedRows();
        isLaw(rows, law(3, 94, 1), 97, 0, 1, 4, 9, 16, 25, 36);
        isLaw(rows, law(0, 0, 0), 97, 0, 0, 5);
        isLaw(rows, law(), 97);
        isLaw(rows, law(0), 97, 5);
    }

    /** All numbers by small primes, up to a few places. */
    private static void leastOfSeveral() {
        Checks.sentence("where several laws of that L do, that with the lesser c1, then c2, .. .");
        isLaw(law(0, 0, 1), 3, 1, 2, 1, 1);
        isLaw(law(0, 0, 3), 7, 0, 1, 1, 0, 3);
        isLaw(law(0, 3, 2), 5, 0, 1, 2, 3, 3);
        tryAll(2, 8);
        tryAll(3, 6);
        tryAll(5, 4);
    }

    /** Some rows of numbers are put to one object, so that what it told ahead must not count. */
    private static void tryAll(int p, int most) {
        int all = 1;
        CarriedRows rows = new CarriedRows();
        for (int size = 1; size <= most; size++) {
            all *= p;
            for (int code = 0; code < all; code++) {
                int[] numbers = new int[size];
                for (int i = 0, left = code; i < size; i++, left /= p) {
                    numbers[i] = left % p;
                }
                rows = code % 20 == 0 ? new CarriedRows() : rows;
                int[] law = leastByTrying(numbers, p);
                isLaw(rows, law, p, numbers);
                Checks.due("next " + told(p, numbers), rows.next(), carried(law, numbers, size, p));
            }
        }
    }

    private static void isBroken(String row, int want, int p, int... numbers) {
        CarriedRows rows = numbers(p, numbers);
        Checks.row(rows, 4, row);
        Checks.due(row + " breaks " + told(p, numbers), rows.breaks(4), want);
    }

    private static void breaksFromNought() {
        Checks.sentence("A ROW BREAKS NUMBERS at the first place (from 0; STARTS by p, too) where its REST by p is another one.");
        isBroken("1,1:0,1", 0, 5, 1, 1, 1, 2);
        isBroken("1,1:0,1", 1, 5, 0, 2, 1, 2);
        isBroken("1,1:0,1", 2, 5, 0, 1, 2, 2);
        isBroken("1,1:0,1", 3, 5, 0, 1, 1, 3);
        isBroken("1,1:0,1", NONE, 5, 0, 1, 1, 2);
        isBroken("1,1:0,1", 5, 5, 0, 1, 1, 2, 3, 1);
        isBroken("1,1:0,1", NONE, 5, 0, 1, 1, 2, 3, 0);
        // Starts by p, those less than 0 too; fewer numbers than starts.
        isBroken("1,1:-5,11", NONE, 5, 0, 1, 1, 2);
        isBroken("1,1:-6,11", 0, 5, 0, 1, 1, 2);
        isBroken("1,1:-1000000,1000000", NONE, 3, 2, 1, 0, 1);
        isBroken("1,1,1,1,1,-1:0,-1,2,3,4,5", NONE, 5, 0, 4, 2);
        isBroken("1,1,1,1,1,-1:0,-1,2,3,4,5", 2, 5, 0, 4, 3);
        isBroken("-100000:1", NONE, 97, 1, Math.floorMod(-100000, 97));
        isBroken("-1:7", 39, 97, sevens(40));
    }

    /** 7 and less 7 by 97 in turn, but for the last, that is another one. */
    private static int[] sevens(int size) {
        int[] all = new int[size];
        for (int i = 0; i < size; i++) {
            all[i] = i == size - 1 ? 7 : i % 2 == 0 ? 7 : 90;
        }
        return all;
    }

    // ---- promises

    private static void prime() {
        Checks.sentence("NUMBERS are by the prime p, none yet: how many there were. BAD.");
        CarriedRows rows = new CarriedRows();
        Checks.due("none were", rows.prime(97), 0);
        rows.add(96);
        rows.add(0);
        Checks.due("two were", rows.prime(97), 2);
        Checks.due("none are", rows.count(1), 0);
        Checks.due("none by the same prime", rows.next(), NONE);
        Checks.due("the first", rows.add(5), 1);
        Checks.due("BAD", rows.prime(9), BAD);
        Checks.due("one is left", rows.add(96), 2);
        Checks.due("two were", rows.prime(2), 2);
        Checks.due("2 by 2", rows.add(2), BAD);
    }

    private static void add() {
        Checks.sentence("A number more (0 to p - 1): how many. BAD; FULL: 40.");
        for (int p : new int[] {2, 3, 5, 97}) {
            Checks.due("0 by " + p, numbers(p).add(0), 1);
            Checks.due("the greatest by " + p, numbers(p).add(p - 1), 1);
            for (int v : new int[] {-1, p, p + 1, LEAST, MOST}) {
                Checks.refused("add(" + v + ") by " + p, () -> numbers(p, 1, 0), rows -> rows.add(v), BAD);
            }
        }
    }

    private static void least() {
        Checks.sentence("THE LEAST LAW: L (i = 0), ci. NONE: i above L; BAD.");
        CarriedRows rows = numbers(7, 0, 1, 1, 2, 3);
        Checks.due("L", rows.least(0), 2);
        Checks.due("c1", rows.least(1), 1);
        Checks.due("c2", rows.least(2), 1);
        for (int i : new int[] {3, 40, 41, MOST}) {
            Checks.due("c" + i, rows.least(i), NONE);
        }
        for (int i : new int[] {-1, -2, LEAST}) {
            Checks.due("c" + i, rows.least(i), BAD);
            Checks.due("c" + i + " of no numbers", new CarriedRows().least(i), BAD);
        }
        Checks.due("L of no numbers", new CarriedRows().least(0), 0);
        Checks.due("c1 of no numbers", new CarriedRows().least(1), NONE);
        CarriedRows full = numbers(97, many(40, 0, 1));
        Checks.due("L of forty", full.least(0), 40);
        Checks.due("c40", full.least(40), 0);
        Checks.due("c41", full.least(41), NONE);
        Checks.refused("c41, once more", () -> numbers(97, many(40, 0, 1)), made -> made.least(41), NONE);
    }

    private static void breaks() {
        Checks.sentence("Where REGISTER r BREAKS NUMBERS. NONE; BAD.");
        Checks.due("no numbers", new CarriedRows().breaks(5), NONE);
        Checks.due("noughts", numbers(2, 0, 0, 0).breaks(5), NONE);
        Checks.due("the first", numbers(2, 1, 0, 0).breaks(5), 0);
        Checks.due("the last", numbers(2, 0, 0, 1).breaks(5), 2);
        Checks.due("BAD before NONE", new CarriedRows().breaks(6), BAD);
        Checks.due("BAD before NONE", new CarriedRows().breaks(-1), BAD);
    }

    private static void next() {
        Checks.sentence("The number that THE LEAST LAW tells next (0, if L is 0; NONE: no NUMBERS).");
        Checks.due("no numbers", new CarriedRows().next(), NONE);
        Checks.due("one nought", numbers(2, 0).next(), 0);
        Checks.due("forty noughts", numbers(97, many(40, 0, 0)).next(), 0);
        Checks.due("one number", numbers(97, 96).next(), 0);
        Checks.due("two alike", numbers(97, 96, 96).next(), 96);
        Checks.due("less than 0 by the prime", numbers(97, 1, 96).next(), 1);
        Checks.due("as many numbers as L", numbers(97, 0, 0, 5).next(), 0);
        Checks.due("Fibonacci", numbers(97, 0, 1, 1, 2, 3, 5, 8, 13, 21, 34, 55, 89).next(), 144 - 97);
        Checks.due("forty in turn", numbers(97, alternating(40)).next(), 5);
        Checks.refused("nothing changes", () -> numbers(97, 1, 2, 4), rows -> rows.next(), 8);
        Checks.due("no numbers behind prime", numbers(97, 1, 2).prime(5), 2);
    }
}
