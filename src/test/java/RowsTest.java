/** Promises 1 to 8: a new object, write, wipe, fault, take, told, exact, rest. */
public final class RowsTest {
    private static final long TOLD_BAD = -10000000L;
    private static final long EXACT_BAD = -1000000000000000000L;
    private static final long EXACT_SPENT = -1000000000000000005L;

    private RowsTest() {
    }

    public static void main(String[] args) {
        newObject();
        write();
        wipe();
        faultPlaces();
        faultNumbers();
        take();
        told();
        exact();
        exactBeyondLong();
        rest();
        Checks.finish("RowsTest");
    }

    private static void newObject() {
        CarriedRows rows = new CarriedRows();
        for (int r = 0; r < 6; r++) {
            Checks.isRow("promise 1: register " + r, rows, r, "1:0");
        }
        Checks.due("promise 1: count(0)", rows.count(0), 0);
        Checks.due("promise 1: count(1)", rows.count(1), 0);
        Checks.due("promise 1: count(2)", rows.count(2), 6);
        Checks.due("promise 1: fault()", rows.fault(), 0);
        Checks.due("promise 1: add(1), p is 2", rows.add(1), 1);
        Checks.due("promise 1: add(2), p is 2", rows.add(2), CarriedRows.BAD);
    }

    private static void write() {
        CarriedRows rows = new CarriedRows();
        Checks.due("promise 2: write(0, 0)", rows.write(0, 0), CarriedRows.BAD);
        Checks.due("promise 2: write(9, 0)", rows.write(9, 0), CarriedRows.BAD);
        Checks.due("promise 2: write(-1, 0)", rows.write(-1, 0), CarriedRows.BAD);
        Checks.due("promise 2: the lowest bytes, highest first",
                rows.write(3, 0x5858585858000000L | Checks.packed("7:9")), 3);
        Checks.due("promise 2: take", rows.take(0), 1);
        Checks.isRow("promise 2", rows, 0, "7:9");
        Checks.due("promise 2: write behind", rows.write(1, '8'), 4);
        Checks.due("promise 2: take", rows.take(0), 1);
        Checks.isRow("promise 2", rows, 0, "7:98");
        rows.wipe();
        for (int i = 1; i <= 12; i++) {
            Checks.due("promise 2: write(8)", rows.write(8, -1L), 8 * i);
        }
        Checks.due("promise 2: five bytes too many", rows.write(5, 0), CarriedRows.FULL);
        Checks.due("promise 2: BAD before FULL", rows.write(9, 0), CarriedRows.BAD);
        Checks.due("promise 2: nothing changed", rows.count(0), 96);
        Checks.due("promise 2: up to 100", rows.write(4, 0), 100);
        Checks.due("promise 2: full", rows.write(1, 0), CarriedRows.FULL);
        Checks.due("promise 2: a byte of 255 can't stand", rows.fault(), 0);
    }

    private static void wipe() {
        CarriedRows rows = new CarriedRows();
        Checks.due("promise 3: empty", rows.wipe(), 0);
        rows.write(5, 0);
        Checks.due("promise 3: five", rows.wipe(), 5);
        Checks.due("promise 3: again", rows.wipe(), 0);
        Checks.due("promise 3: count", rows.count(0), 0);
    }

    private static void fault(String text, int want) {
        CarriedRows rows = new CarriedRows();
        Checks.put(rows, text);
        Checks.due("promise 4: fault of " + text, rows.fault(), want);
        Checks.due("promise 5: take of " + text, rows.take(1) == CarriedRows.NO ? 1 : 0,
                want == CarriedRows.NONE ? 0 : 1);
        Checks.due("promise 4: the text stays", rows.count(0), text.length());
    }

    private static void faultPlaces() {
        fault("", 0);
        fault("1", 1);
        fault("1:", 2);
        fault("1:5", CarriedRows.NONE);
        fault("1:12", CarriedRows.NONE);
        fault("1:0", CarriedRows.NONE);
        fault("1:00", 3);
        fault("1:0,", 3);
        fault("1:5,6", 3);
        fault("1:5:", 3);
        fault("1,2:5", 5);
        fault("1,2:5,", 6);
        fault("1,2:5:6", 5);
        fault("1,2:5,6", CarriedRows.NONE);
        fault("1,2:5,6,", 7);
        fault("0,1:0,1", CarriedRows.NONE);
        fault("0:1", 1);
        fault("1,0", 3);
        fault("1,0:", 3);
        fault("01:1", 1);
        fault("-0,1:1,1", 1);
        fault("-", 1);
        fault("-,", 1);
        fault("--1:1", 1);
        fault("-5:-7", CarriedRows.NONE);
        fault("1-:", 1);
        fault("1:-", 3);
        fault("1:-0", 3);
        fault(":1", 0);
        fault(",1:1", 0);
        fault("1,,", 2);
        fault("1,:", 2);
        fault("1:,", 2);
        fault(" 1:1", 0);
        fault("+1:1", 0);
        fault("1:1 ", 3);
        fault("1;1", 1);
        fault("1/", 1);
        fault("1,1,1,1,1,1:1,1,1,1,1,1", CarriedRows.NONE);
        fault("1,1,1,1,1,1", 11);
        fault("1,1,1,1,1,1,", 11);
        fault("1,1,1,1,1,12,", 12);
        fault("1,1,1,1,1,0:", 11);
        fault("1,1,1,1,1,1:1,1,1,1,1,1,", 23);
    }

    private static void faultNumbers() {
        fault("100000:1000000", CarriedRows.NONE);
        fault("-100000:-1000000", CarriedRows.NONE);
        fault("100001:1", 0);
        fault("-100001:1", 0);
        fault("100001", 0);
        fault("100001x", 0);
        fault("10000", 5);
        fault("1,100001:1,1", 2);
        fault("1,-100001:1,1", 2);
        fault("1:1000001", 2);
        fault("1:-1000001", 2);
        fault("1,1:1,1000001", 6);
        fault("1:99999999999999999999999999999999", 2);
        fault("4294967297:1", 0);
        fault("18446744073709551617:1", 0);
        fault("x100001", 0);
        fault("1x100001", 1);
    }

    private static void take() {
        CarriedRows rows = new CarriedRows();
        Checks.due("promise 5: BAD before NO", rows.take(6), CarriedRows.BAD);
        Checks.due("promise 5: take(-1)", rows.take(-1), CarriedRows.BAD);
        Checks.due("promise 5: a fault", rows.take(0), CarriedRows.NO);
        Checks.put(rows, "3,0,-5:-1,20,300");
        Checks.due("promise 5: take(5)", rows.take(5), 3);
        Checks.isRow("promise 5", rows, 5, "3,0,-5:-1,20,300");
        Checks.isRow("promise 5: another one stays", rows, 4, "1:0");
        Checks.due("promise 5: the text stays", rows.count(0), 16);
        rows.write(1, ',');
        Checks.due("promise 5: a fault behind", rows.take(5), CarriedRows.NO);
        Checks.isRow("promise 5: the register stays", rows, 5, "3,0,-5:-1,20,300");
        Checks.put(rows, "2:7");
        Checks.due("promise 5: a lesser order", rows.take(5), 1);
        Checks.isRow("promise 5", rows, 5, "2:7");
    }

    private static void told() {
        CarriedRows rows = new CarriedRows();
        Checks.row(rows, 2, "3,0,-100000:-1000000,20,300");
        Checks.due("promise 6: the order, i is not asked", rows.told(2, 0, 99), 3);
        Checks.due("promise 6: c0", rows.told(2, 1, 0), TOLD_BAD);
        Checks.due("promise 6: c3", rows.told(2, 1, 3), -100000);
        Checks.due("promise 6: c4", rows.told(2, 1, 4), TOLD_BAD);
        Checks.due("promise 6: start -1", rows.told(2, 2, -1), TOLD_BAD);
        Checks.due("promise 6: start 0", rows.told(2, 2, 0), -1000000);
        Checks.due("promise 6: start 3", rows.told(2, 2, 3), TOLD_BAD);
        Checks.due("promise 6: what 3", rows.told(2, 3, 1), TOLD_BAD);
        Checks.due("promise 6: what -1", rows.told(2, -1, 1), TOLD_BAD);
        Checks.due("promise 6: register 6", rows.told(6, 0, 0), TOLD_BAD);
        Checks.due("promise 6: register -1", rows.told(-1, 0, 0), TOLD_BAD);
    }

    private static void exact() {
        CarriedRows rows = new CarriedRows();
        Checks.row(rows, 0, "10:1");
        Checks.due("promise 7: 10 to the 17", rows.exact(0, 17), 100000000000000000L);
        Checks.due("promise 7: 10 to the 18", rows.exact(0, 18), EXACT_SPENT);
        Checks.row(rows, 0, "-10:1");
        Checks.due("promise 7: less 10 to the 17", rows.exact(0, 17), -100000000000000000L);
        Checks.due("promise 7: 10 to the 18", rows.exact(0, 18), EXACT_SPENT);
        Checks.row(rows, 0, "11,-10:0,9");
        Checks.due("promise 7: 10 to the 17 less 1", rows.exact(0, 17), 99999999999999999L);
        Checks.row(rows, 0, "11,-10:2,11");
        Checks.due("promise 7: 10 to the 17 and 1", rows.exact(0, 17), EXACT_SPENT);
        Checks.row(rows, 0, "11,-10:-2,-11");
        Checks.due("promise 7: the same less than 0", rows.exact(0, 17), EXACT_SPENT);
        Checks.row(rows, 0, "-1:7");
        Checks.due("promise 7: place 2000", rows.exact(0, 2000), 7);
        Checks.due("promise 7: place 1999", rows.exact(0, 1999), -7);
        Checks.due("promise 7: place 2001", rows.exact(0, 2001), EXACT_BAD);
        Checks.due("promise 7: place -1", rows.exact(0, -1), EXACT_BAD);
        Checks.due("promise 7: register 6", rows.exact(6, 0), EXACT_BAD);
        Checks.due("promise 7: register -1", rows.exact(-1, 0), EXACT_BAD);
        Checks.row(rows, 1, "1,1:0,1");
        Checks.due("promise 7: the 84th of Fibonacci", rows.exact(1, 83), 99194853094755497L);
        Checks.due("promise 7: the 85th of Fibonacci", rows.exact(1, 84), EXACT_SPENT);
    }

    private static void exactBeyondLong() {
        CarriedRows rows = new CarriedRows();
        Checks.row(rows, 0, "65536:1");
        Checks.due("promise 7: 2 to the 48", rows.exact(0, 3), 1L << 48);
        Checks.due("promise 7: 2 to the 64, that is 0 in 64 bits", rows.exact(0, 4), EXACT_SPENT);
        Checks.due("promise 7: behind it", rows.exact(0, 5), EXACT_SPENT);
        Checks.row(rows, 0, "65536:-1");
        Checks.due("promise 7: less 2 to the 64", rows.exact(0, 4), EXACT_SPENT);
        // The polynomial is (z less 10000)(z less 10): the multiples are 10 to the 20 and less 10 to the 20.
        Checks.row(rows, 0, "10010,-100000:1,10");
        Checks.due("promise 7: great multiples that meet", rows.exact(0, 17), 100000000000000000L);
        Checks.due("promise 7: and go beyond", rows.exact(0, 18), EXACT_SPENT);
        Checks.row(rows, 0, "100000,-100000:1000000,1000000");
        Checks.due("promise 7: multiples that meet in nought", rows.exact(0, 2), 0);
        Checks.due("promise 7: behind it", rows.exact(0, 3), -100000000000L);
        Checks.row(rows, 0, "0,100000,-1:0,0,1000000");
        Checks.due("promise 7: a nought", rows.exact(0, 3), 0);
        Checks.due("promise 7: ahead of a spent one", rows.exact(0, 5), -1000000L);
        Checks.due("promise 7: 10 to the 16", rows.exact(0, 6), 10000000000000000L);
        Checks.due("promise 7: a lesser one", rows.exact(0, 7), -200000000000L);
        Checks.due("promise 7: a spent one", rows.exact(0, 8), EXACT_SPENT);
        Checks.due("promise 7: a lesser one behind a spent one", rows.exact(0, 9), EXACT_SPENT);
        // The polynomial is (z less 100000)(z to the 2 less 1), and the starts keep to the latter part.
        Checks.row(rows, 2, "100000,1,-100000:1000000,999999,1000000");
        Checks.due("promise 7: place 3", rows.exact(2, 3), 999999L);
        Checks.due("promise 7: place 2000", rows.exact(2, 2000), 1000000L);
    }

    private static void rest() {
        CarriedRows rows = new CarriedRows();
        Checks.row(rows, 0, "1,1:0,1");
        Checks.due("promise 8: place 0", rows.rest(0, 0, 2), 0);
        Checks.due("promise 8: place 1", rows.rest(0, 1, 1000000), 1);
        Checks.due("promise 8: place 30", rows.rest(0, 30, 1000000), 832040);
        Checks.due("promise 8: place 31", rows.rest(0, 31, 1000000), 346269);
        Checks.due("promise 8: place 1000000000 by 10: 1000000000 is 40 by 60", rows.rest(0, 1000000000, 10), 5);
        Checks.due("promise 8: place 1000000001", rows.rest(0, 1000000001, 10), CarriedRows.BAD);
        Checks.due("promise 8: place -1", rows.rest(0, -1, 10), CarriedRows.BAD);
        Checks.due("promise 8: by 1", rows.rest(0, 5, 1), CarriedRows.BAD);
        Checks.due("promise 8: by 1000001", rows.rest(0, 5, 1000001), CarriedRows.BAD);
        Checks.due("promise 8: register 6", rows.rest(6, 5, 10), CarriedRows.BAD);
        Checks.due("promise 8: register -1", rows.rest(-1, 5, 10), CarriedRows.BAD);
        Checks.row(rows, 0, "-1:7");
        Checks.due("promise 8: a rest is 0 at least", rows.rest(0, 999999999, 10), 3);
        Checks.row(rows, 0, "-99999:-999999");
        Checks.due("promise 8: the first place", rows.rest(0, 0, 1000000), 1);
        Checks.due("promise 8: the second place", rows.rest(0, 1, 1000000), 900001);
    }
}
