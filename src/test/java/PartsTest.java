/** Promises 21 to 23: dividing, parted, count. */
public final class PartsTest {
    private PartsTest() {
    }

    public static void main(String[] args) {
        dividing();
        dividingByNought();
        strong();
        dividingSpent();
        parted();
        partedInAllWays();
        count();
        Checks.finish("PartsTest");
    }

    private static CarriedRows one(String text) {
        CarriedRows rows = new CarriedRows();
        Checks.row(rows, 0, text);
        return rows;
    }

    private static void isDividing(String text, boolean strong, int n, int want) {
        Checks.due("promise 21: dividing of " + text + ", " + strong + " to " + n, one(text).dividing(0, strong, n),
                want);
    }

    private static void dividing() {
        isDividing("1,1:0,1", false, 40, CarriedRows.NONE);
        isDividing("1,1:2,1", false, 40, 204);
        isDividing("1,1:2,1", false, 4, 204);
        isDividing("1,1:2,1", false, 3, CarriedRows.NONE);
        // 3, 5, 7, ..
        isDividing("2,-1:1,3", false, 40, 102);
        isDividing("2,-1:1,3", false, 2, 102);
        // By j first: 3 is no part of 4 at places 2 and 4, ahead of 1 and 5.
        isDividing("0,0,0,0,0,1:9,1,3,1,4,1", false, 40, 204);
        // By i then: of place 4 both 1 and 2 fail.
        isDividing("0,0,0,0,0,1:9,3,6,9,4,3", false, 40, 104);
        isDividing("-2:5", false, 40, CarriedRows.NONE);
        // The number of place 0 is not asked.
        isDividing("0,1:7,1", false, 2, CarriedRows.NONE);
        CarriedRows rows = one("1,1:0,1");
        Checks.due("promise 21: N is 1", rows.dividing(0, false, 1), CarriedRows.BAD);
        Checks.due("promise 21: N is 41", rows.dividing(0, false, 41), CarriedRows.BAD);
        Checks.due("promise 21: STRONG, N is 1", rows.dividing(0, true, 1), CarriedRows.BAD);
        Checks.due("promise 21: STRONG, N is 41", rows.dividing(0, true, 41), CarriedRows.BAD);
        Checks.due("promise 21: register 6", rows.dividing(6, false, 2), CarriedRows.BAD);
        Checks.due("promise 21: register -1", rows.dividing(-1, false, 2), CarriedRows.BAD);
    }

    private static void dividingByNought() {
        isDividing("1:0", false, 40, CarriedRows.NONE);
        isDividing("1:0", true, 40, CarriedRows.NONE);
        // 0 is a part of 0 alone; each number is a part of 0.
        isDividing("0,1:1,0", false, 40, 102);
        isDividing("0,0,1:1,1,0", false, 3, CarriedRows.NONE);
        isDividing("0,0,1:1,1,0", false, 4, 204);
        isDividing("0,0,1:1,1,0", true, 4, 204);
        isDividing("0,1:1,0", true, 40, 102);
    }

    private static void strong() {
        isDividing("1,1:0,1", true, 40, CarriedRows.NONE);
        isDividing("-1,1:0,1", true, 40, CarriedRows.NONE);
        isDividing("1,1:0,-7", true, 40, CarriedRows.NONE);
        isDividing("3,-2:0,1", true, 40, CarriedRows.NONE);
        // n times 2 to the n: it divides, but places 2 and 3 share 8.
        isDividing("4,-4:0,2", false, 40, CarriedRows.NONE);
        isDividing("4,-4:0,2", true, 40, 203);
        isDividing("4,-4:0,2", true, 3, 203);
        isDividing("4,-4:0,2", true, 2, CarriedRows.NONE);
        // A part alone is not enough: 2 and 4 share 2, that is not the size of 4.
        isDividing("0,0,0,0,0,1:9,1,4,1,2,1", true, 40, 204);
        // By j, then i: places 1 and 4 fail, and 3 and 4.
        isDividing("0,0,0,0,0,1:9,1,1,5,5,1", true, 40, 304);
        isDividing("0,0,0,0,0,1:9,2,2,4,1,2", true, 40, 104);
    }

    private static void dividingSpent() {
        Checks.due("promise 21: place 17 is told", one("10:1").dividing(0, false, 17), CarriedRows.NONE);
        Checks.due("promise 21: place 18 is spent", one("10:1").dividing(0, false, 18), CarriedRows.SPENT);
        Checks.due("promise 21: STRONG, place 17 is told", one("10:1").dividing(0, true, 17), 203);
        Checks.due("promise 21: spent, though there is a pair", one("10:1").dividing(0, true, 18), CarriedRows.SPENT);
        Checks.due("promise 21: BAD before SPENT", one("10:1").dividing(0, true, 41), CarriedRows.BAD);
    }

    private static void isParted(String law, int p, int all, int greatest, int unlike) {
        StringBuilder starts = new StringBuilder("0");
        for (int i = 0; i < law.length(); i++) {
            starts.append(law.charAt(i) == ',' ? ",0" : "");
        }
        CarriedRows rows = one(law + ":" + starts);
        String call = "promise 22: parted of " + law + " by " + p;
        Checks.due(call + ", all", rows.parted(0, p, 0), all);
        Checks.due(call + ", greatest", rows.parted(0, p, 1), greatest);
        Checks.due(call + ", unlike", rows.parted(0, p, 2), unlike);
    }

    private static void parted() {
        isParted("1,1", 2, 1, 2, 1);
        isParted("1,1", 5, 2, 1, 1);
        isParted("1,1", 11, 2, 1, 2);
        isParted("5", 97, 1, 1, 1);
        isParted("6,-11,6", 97, 3, 1, 3);
        isParted("3,-3,1", 97, 3, 1, 1);
        isParted("97,194,96", 97, 3, 1, 3);
        isParted("89,-89,88", 89, 2, 2, 2);
        isParted("6,-11,6", 2, CarriedRows.NO, CarriedRows.NO, CarriedRows.NO);
        isParted("6,-11,-97", 97, CarriedRows.NO, CarriedRows.NO, CarriedRows.NO);
        CarriedRows rows = one("6,-11,6:0,0,1");
        Checks.due("promise 22: BAD before NO", rows.parted(0, 2, 3), CarriedRows.BAD);
        Checks.due("promise 22: what 3", rows.parted(0, 5, 3), CarriedRows.BAD);
        Checks.due("promise 22: what -1", rows.parted(0, 5, -1), CarriedRows.BAD);
        int[] none = {-5, 0, 1, 4, 9, 91, 95, 101};
        for (int p : none) {
            Checks.due("promise 22: no such prime " + p, rows.parted(0, p, 0), CarriedRows.BAD);
        }
        Checks.due("promise 22: register 6", rows.parted(6, 5, 0), CarriedRows.BAD);
        Checks.due("promise 22: register -1", rows.parted(-1, 5, 0), CarriedRows.BAD);
    }

    /** By 2: z + 1, zz + z + 1, the cubes zzz + z + 1 and zzz + zz + 1, and so on. */
    private static void partedInAllWays() {
        isParted("1,0,1", 2, 1, 3, 1);
        isParted("0,1,1", 2, 1, 3, 1);
        isParted("0,0,1,1", 2, 1, 4, 1);
        isParted("0,0,1,0,1", 2, 1, 5, 1);
        isParted("0,0,0,0,1,1", 2, 1, 6, 1);
        // (zz + z + 1) twice, three times.
        isParted("0,1,0,1", 2, 2, 2, 1);
        isParted("1,0,1,0,1,1", 2, 3, 2, 1);
        // (zzz + z + 1) twice, and both cubes.
        isParted("0,0,0,1,0,1", 2, 2, 3, 1);
        isParted("1,1,1,1,1,1", 2, 2, 3, 2);
        // (zz + z + 1)(zzz + z + 1), and that times (z + 1).
        isParted("1,0,0,0,1", 2, 2, 3, 2);
        isParted("0,1,0,0,1,1", 2, 3, 3, 3);
        // (z + 1) six times, twice beside (zz + z + 1) twice, thrice beside a cube.
        isParted("0,1,0,1,0,1", 2, 6, 1, 1);
        isParted("0,0,0,0,0,1", 2, 4, 2, 2);
        isParted("1,0,1,0,0,1", 2, 4, 3, 2);
        // (zzzz + z + 1) beside zz + z + 1, beside (z + 1) twice.
        isParted("1,1,1,0,0,1", 2, 2, 4, 2);
        isParted("0,1,1,1,1,1", 2, 3, 4, 2);
        // By 3 there are three of degree 2: all of them, one thrice, one twice; both of degree 1 beside two.
        isParted("0,2,0,2,0,2", 3, 3, 2, 3);
        isParted("0,0,0,0,0,2", 3, 3, 2, 1);
        isParted("2,2,1,1,2,1", 3, 3, 2, 2);
        isParted("2,1,0,1,1,2", 3, 4, 2, 4);
    }

    private static void count() {
        CarriedRows rows = new CarriedRows();
        Checks.due("promise 23: what 3", rows.count(3), CarriedRows.BAD);
        Checks.due("promise 23: what -1", rows.count(-1), CarriedRows.BAD);
        Checks.put(rows, "1,2,3:4,5,6");
        rows.take(0);
        rows.take(5);
        rows.add(1);
        rows.add(0);
        Checks.due("promise 23: bytes", rows.count(0), 11);
        Checks.due("promise 23: numbers", rows.count(1), 2);
        Checks.due("promise 23: orders", rows.count(2), 10);
    }
}
