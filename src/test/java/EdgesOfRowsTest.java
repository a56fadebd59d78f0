/** The boundaries that the document names, sentence by sentence: its heading 1, promises 1 to 8. */
public final class EdgesOfRowsTest {
    private static final long TOLD_BAD = -10000000L;
    private static final long EXACT_BAD = -1000000000000000000L;
    private static final long EXACT_SPENT = -1000000000000000005L;
    private static final int LEAST = Integer.MIN_VALUE;
    private static final int MOST = Integer.MAX_VALUE;
    private static final String SIX = "1,1,1,1,1,1:0,0,0,0,0,0";

    private EdgesOfRowsTest() {
    }

    public static void main(String[] args) {
        calls();
        orders();
        laws();
        starts();
        places();
        registers();
        newRegisters();
        beyondARow();
        bytesOfAText();
        asManyStarts();
        numbersOfAText();
        firstByteThatCannotStand();
        behindSixNumbers();
        behindAsManyStarts();
        colonBehindNought();
        numberBeyond();
        endOfAText();
        exactNumbers();
        exactAheadOfABeyondOne();
        exactWithoutWrapping();
        rests();
        newObject();
        write();
        writeRefused();
        wipe();
        fault();
        take();
        told();
        exact();
        rest();
        Checks.finish("EdgesOfRowsTest");
    }

    private static CarriedRows textOf(String text) {
        CarriedRows rows = new CarriedRows();
        Checks.put(rows, text);
        return rows;
    }

    private static void isFault(String text, int want) {
        Checks.due("fault of " + text, textOf(text).fault(), want);
        Checks.due("take of " + text, textOf(text).take(2) == CarriedRows.NO ? 1 : 0, want == CarriedRows.NONE ? 0 : 1);
    }

    /** The text has that fault, and the row that it does not tell changes nothing. */
    private static void isRefused(String text, int want) {
        isFault(text, want);
        Checks.refused("take(1) of " + text, () -> textOf(text), rows -> rows.take(1), CarriedRows.NO);
    }

    private static void isTaken(String text) {
        isFault(text, CarriedRows.NONE);
        CarriedRows rows = new CarriedRows();
        Checks.row(rows, 1, text);
        Checks.dueTo("row of " + text, Checks.row(rows, 1), text);
    }

    // ---- terms

    private static void calls() {
        Checks.sentence("An object is used for at most 512 calls after it has been made");
        CarriedRows rows = new CarriedRows();
        rows.write(7, Checks.packed("1,1:0,1"));
        rows.take(0);
        for (int call = 3; call <= 510; call++) {
            Checks.due("call " + call, rows.exact(0, 83), 99194853094755497L);
        }
        Checks.due("call 511", rows.round(0, 1000, 1), 1500);
        Checks.due("call 512", rows.rest(0, 1000000000, 10), 5);
    }

    private static void orders() {
        Checks.sentence("A ROW has an ORDER k (1 to 6)");
        isRefused(":", 0);
        isTaken("7:8");
        isTaken("1,2:3,4");
        isTaken("1,2,3:4,5,6");
        isTaken("1,2,3,4:5,6,7,8");
        isTaken("1,2,3,4,5:6,7,8,9,0");
        isTaken("1,2,3,4,5,6:7,8,9,0,1,2");
        isRefused("1,2,3,4,5,6,7:8,9,0,1,2,3,4", 11);
    }

    /** Six numbers of which that at a place is another one. */
    private static String sixWith(String others, int at, String number) {
        StringBuilder six = new StringBuilder();
        for (int i = 0; i < 6; i++) {
            six.append(i > 0 ? "," : "").append(i == at ? number : others);
        }
        return six.toString();
    }

    private static void laws() {
        Checks.sentence("a LAW c1 .. ck (whole, -100000 to 100000; ck not 0)");
        for (int i = 0; i < 6; i++) {
            isTaken(sixWith("1", i, "100000") + ":0,0,0,0,0,0");
            isTaken(sixWith("1", i, "-100000") + ":0,0,0,0,0,0");
            isTaken(sixWith("1", i, "99999") + ":0,0,0,0,0,0");
            isRefused(sixWith("1", i, "100001") + ":0,0,0,0,0,0", 2 * i);
            isRefused(sixWith("1", i, "-100001") + ":0,0,0,0,0,0", 2 * i);
        }
        for (int i = 0; i < 5; i++) {
            isTaken(sixWith("1", i, "0") + ":0,0,0,0,0,0");
        }
        isTaken("0,0,0,0,0,-1:0,0,0,0,0,0");
        isRefused("1,1,1,1,1,0:0,0,0,0,0,0", 11);
        isRefused("0:0", 1);
    }

    private static void starts() {
        Checks.sentence("STARTS (-1000000 to 1000000)");
        for (int i = 0; i < 6; i++) {
            isTaken("1,1,1,1,1,1:" + sixWith("2", i, "1000000"));
            isTaken("1,1,1,1,1,1:" + sixWith("2", i, "-1000000"));
            isTaken("1,1,1,1,1,1:" + sixWith("2", i, "999999"));
            isTaken("1,1,1,1,1,1:" + sixWith("2", i, "0"));
            isRefused("1,1,1,1,1,1:" + sixWith("2", i, "1000001"), 12 + 2 * i);
            isRefused("1,1,1,1,1,1:" + sixWith("2", i, "-1000001"), 12 + 2 * i);
        }
    }

    private static void arePlaces(String text, long... numbers) {
        CarriedRows rows = Checks.with(text);
        for (int n = 0; n < numbers.length; n++) {
            Checks.due("place " + n + " of " + text, rows.exact(0, n), numbers[n]);
            Checks.due("rest of place " + n + " of " + text, rows.rest(0, n, 999983), Math.floorMod(numbers[n], 999983L));
        }
    }

    private static void places() {
        Checks.sentence("places 0 to k - 1; place n from k on is c1 times place n - 1 and c2 times place n - 2 and .. together");
        arePlaces("3:5", 5, 15, 45);
        arePlaces("3,-20:7,11", 7, 11, 33 - 140, 3 * (33 - 140) - 220);
        arePlaces("1,20,300:3,5,7", 3, 5, 7, 7 + 100 + 900, 1007 + 140 + 1500);
        arePlaces("1,20,300,4000:3,5,7,9", 3, 5, 7, 9, 9 + 140 + 1500 + 12000);
        arePlaces("1,20,300,4000,50000:3,5,7,9,1", 3, 5, 7, 9, 1, 1 + 180 + 2100 + 20000 + 150000);
        arePlaces("1,10,100,1000,10000,100000:2,3,4,5,6,7", 2, 3, 4, 5, 6, 7, 7 + 60 + 500 + 4000 + 30000 + 200000);
    }

    private static void registers() {
        Checks.sentence("REGISTERS 0 to 5 hold ROWS");
        CarriedRows rows = new CarriedRows();
        String[] texts = {"1:10", "2:11", "3:12", "4:13", "5:14", "6:15"};
        for (int r = 0; r < 6; r++) {
            Checks.row(rows, r, texts[r]);
        }
        for (int r = 0; r < 6; r++) {
            Checks.dueTo("row " + r, Checks.row(rows, r), texts[r]);
        }
        for (int r : new int[] {-1, 6, LEAST, MOST}) {
            Checks.due("take(" + r + ")", rows.take(r), CarriedRows.BAD);
            Checks.due("told(" + r + ")", rows.told(r, 0, 0), TOLD_BAD);
            Checks.due("exact(" + r + ")", rows.exact(r, 0), EXACT_BAD);
            Checks.due("rest(" + r + ")", rows.rest(r, 0, 2), CarriedRows.BAD);
            Checks.due("round(" + r + ")", rows.round(r, 2, 0), CarriedRows.BAD);
            Checks.due("first(" + r + ")", rows.first(r, 2, 0), CarriedRows.BAD);
            Checks.due("back(" + r + ")", rows.back(r, 1, 2), CarriedRows.BAD);
            Checks.due("roots(" + r + ")", rows.roots(r, 2, -1), CarriedRows.BAD);
            Checks.due("breaks(" + r + ")", rows.breaks(r), CarriedRows.BAD);
            Checks.due("make to " + r, rows.make(r, 6, 0, 0, 0), CarriedRows.BAD);
            Checks.due("make of x " + r, rows.make(0, 0, r, 0, 0), CarriedRows.BAD);
            Checks.due("make of y " + r, rows.make(0, 0, 0, r, 0), CarriedRows.BAD);
            Checks.due("same(" + r + ", 0)", rows.same(r, 0), CarriedRows.BAD);
            Checks.due("same(0, " + r + ")", rows.same(0, r), CarriedRows.BAD);
            Checks.due("dividing(" + r + ")", rows.dividing(r, false, 2), CarriedRows.BAD);
            Checks.due("parted(" + r + ")", rows.parted(r, 7, 0), CarriedRows.BAD);
        }
    }

    private static void newRegisters() {
        Checks.sentence("(at first ORDER 1, c1 1, place 0: 0)");
        CarriedRows rows = new CarriedRows();
        for (int r = 0; r < 6; r++) {
            Checks.dueTo("row " + r, Checks.row(rows, r), "1:0");
            Checks.due("place 2000 of row " + r, rows.exact(r, 2000), 0);
        }
    }

    private static void isFull(int what, String x, String y, int d) {
        Checks.refused("make " + what + " of " + x + " and " + y + " and " + d,
                () -> Checks.with(x, y, "4,-3,9:8,-7,6"), rows -> rows.make(2, what, 0, 1, d), CarriedRows.FULL);
    }

    private static void isMade(int what, String x, String y, int d, String made) {
        CarriedRows rows = Checks.with(x, y, "4,-3,9:8,-7,6");
        String call = "make " + what + " of " + x + " and " + y + " and " + d;
        Checks.due(call, rows.make(2, what, 0, 1, d), made.split(":")[0].split(",").length);
        Checks.dueTo(call, Checks.row(rows, 2), made);
    }

    private static void beyondARow() {
        Checks.sentence("What would be beyond these is FULL, and the REGISTER stays.");
        isMade(0, "0,0,0,0,1:1,2,3,4,5", "-1:1", 0, "-1,0,0,0,1,1:2,1,4,3,6,0");
        isFull(0, "0,0,0,0,0,1:1,2,3,4,5,6", "-1:1", 0);
        isMade(0, "99999:0", "1:0", 0, "100000,-99999:0,0");
        isFull(0, "100000:0", "1:0", 0);
        isMade(0, "-99999:0", "-1:0", 0, "-100000,-99999:0,0");
        isFull(0, "-100000:0", "-1:0", 0);
        isMade(0, "1000:0", "-100:0", 0, "900,100000:0,0");
        isFull(0, "1000:0", "-101:0", 0);
        isMade(0, "1000:0", "100:0", 0, "1100,-100000:0,0");
        isFull(0, "1000:0", "101:0", 0);
        isMade(7, "3:1000", "1:0", 1000, "3:1000000");
        isMade(7, "3:1000", "1:0", -1000, "3:-1000000");
        isFull(7, "3:1001", "1:0", 1000);
        isFull(7, "3:1001", "1:0", -1000);
        isMade(6, "1,1:0,1000000", "1:0", 0, "1,1:0,1000000");
        isMade(6, "1,0,1:1,999999,0", "1:0", 1, "1,0,1:999999,0,1");
        isMade(6, "1,1:1,999999", "1:0", 1, "1,1:999999,1000000");
        isFull(6, "1,1:1,1000000", "1:0", 1);
        isFull(6, "1,1:-1,-1000000", "1:0", 1);
    }

    private static void bytesOfAText() {
        Checks.sentence("A TEXT of bytes (100 at most) tells a ROW");
        String hundred = "-100000,-100000,-100000,-100000,-100000,-100000"
                + ":-1000000,-1000000,-1000000,-1000000,-1000000,-100000";
        Checks.due("bytes", textOf(hundred).count(0), 100);
        isTaken(hundred);
        Checks.refused("a byte more", () -> textOf(hundred), rows -> rows.write(1, '0'), CarriedRows.FULL);
        Checks.refused("eight more", () -> textOf(hundred), rows -> rows.write(8, -1L), CarriedRows.FULL);
        Checks.due("the hundredth", textOf(hundred.substring(0, 99)).write(1, '0'), 100);
        Checks.due("the hundredth of eight", textOf(hundred.substring(0, 92)).write(8, 0), 100);
        Checks.refused("the hundred and first of eight", () -> textOf(hundred.substring(0, 93)),
                rows -> rows.write(8, 0), CarriedRows.FULL);
    }

    private static void asManyStarts() {
        Checks.sentence("numbers of the LAW parted by , then : then STARTS parted by , : as many as the LAW has");
        String law = "";
        for (int order = 1; order <= 6; order++) {
            law = law + (order > 1 ? "," : "") + order;
            String starts = "";
            for (int i = 1; i < order; i++) {
                starts = starts + (i > 1 ? "," : "") + i;
                isRefused(law + ":" + starts, law.length() + 1 + starts.length());
                isRefused(law + ":" + starts + ":", law.length() + 1 + starts.length());
            }
            starts = starts + (order > 1 ? "," : "") + order;
            isTaken(law + ":" + starts);
            isRefused(law + ":" + starts + ",7", law.length() + 1 + starts.length());
            isRefused(law + ":" + starts + ":7", law.length() + 1 + starts.length());
        }
    }

    private static void numbersOfAText() {
        Checks.sentence("a number is 0 or figures without 0 ahead, perhaps with - ahead (not of 0)");
        isTaken("10:20");
        isTaken("-10:-20");
        isTaken("0,9:0,9");
        isTaken("0,-9:0,-9");
        isRefused("00,9:1,1", 1);
        isRefused("09,9:1,1", 1);
        isRefused("-0,9:1,1", 1);
        isRefused("-09,9:1,1", 1);
        isRefused("--9,9:1,1", 1);
        isRefused("+9,9:1,1", 0);
        isRefused("9-,9:1,1", 1);
        isRefused("-,9:1,1", 1);
        isRefused("-:1", 1);
        isRefused(",9:1,1", 0);
        isRefused("9,9:00,1", 5);
        isRefused("9,9:09,1", 5);
        isRefused("9,9:-0,1", 5);
        isRefused("9,9:-09,1", 5);
        isRefused("9,9:--9,1", 5);
        isRefused("9,9:1,00", 7);
        isRefused("9,9:1,-0", 7);
        isRefused("9,9:1,-", 7);
        isRefused("9,9:,1", 4);
        isRefused("9,9:1,", 6);
    }

    /** Behind the start of a text those bytes alone can stand; is the text whole behind such a one? */
    private static void canStand(String start, String signs, boolean isWhole) {
        for (int sign = 0; sign < 256; sign++) {
            CarriedRows rows = textOf(start);
            rows.write(1, sign);
            int want = isWhole ? CarriedRows.NONE : start.length() + 1;
            Checks.due("byte " + sign + " behind " + start, rows.fault(),
                    signs.indexOf((char) sign) < 0 ? start.length() : want);
        }
    }

    private static void firstByteThatCannotStand() {
        Checks.sentence("FAULT: the place of the first byte that can't stand there");
        canStand("", "-0123456789", false);
        canStand("-", "123456789", false);
        canStand("0", ",", false);
        canStand("7", ",:0123456789", false);
        canStand("-7", ",:0123456789", false);
        canStand("7,", "-0123456789", false);
        canStand("7,-", "123456789", false);
        canStand("7,0", ",", false);
        canStand("7:-", "123456789", true);
        canStand("7,-7:", "-0123456789", false);
        canStand("7,-7:0", ",", false);
        canStand("7,-7:7", ",0123456789", false);
        canStand("7,-7:-7", ",0123456789", false);
        canStand("7,-7:7,-", "123456789", true);
        canStand("7,-7:7,-7", "0123456789", true);
        isRefused("7x:-,", 1);
        isRefused("7:-,x", 3);
        isRefused("x", 0);
    }

    private static void behindSixNumbers() {
        Checks.sentence("(behind six numbers of the LAW a , can't;");
        canStand("1,1,1,1,1", ",:0123456789", false);
        canStand("1,1,1,1,1,1", ":0123456789", false);
        canStand("0,0,0,0,0,-1", ":0123456789", false);
        canStand("0,0,0,0,0,0", "", false);
        isRefused("1,1,1,1,1,1,", 11);
        isRefused("1,1,1,1,1,12,1:", 12);
    }

    private static void behindAsManyStarts() {
        Checks.sentence("behind as many STARTS as the LAW has nothing can;");
        canStand("7:0", "", false);
        canStand("7,7:7,0", "", false);
        canStand("7,7,7:7,7,0", "", false);
        canStand("7,7,7,7:7,7,7,0", "", false);
        canStand("7,7,7,7,7:7,7,7,7,0", "", false);
        canStand(SIX, "", false);
        isRefused("7:7,", 3);
        isRefused("7:7,7", 3);
        isRefused("7:7:", 3);
        isRefused("7:7-", 3);
        isRefused("7:7 ", 3);
    }

    private static void colonBehindNought() {
        Checks.sentence(": can't, where the number ahead is 0)");
        isRefused("0:1", 1);
        isRefused("1,0:1,1", 3);
        isRefused("0,0:1,1", 3);
        isRefused("1,1,1,1,1,0:1,1,1,1,1,1", 11);
        isTaken("0,1:1,1");
        isTaken("10:1");
    }

    private static void numberBeyond() {
        Checks.sentence("a number that is beyond what is told: its first byte (that of -)");
        isRefused("100001:1", 0);
        isRefused("-100001:1", 0);
        isRefused("1,100001:1,1", 2);
        isRefused("1,-100001:1,1", 2);
        isRefused("1,1,1,1,1,100001:1,1,1,1,1,1", 10);
        isRefused("1:1000001", 2);
        isRefused("1:-1000001", 2);
        isRefused("1,1:1,1000001", 6);
        isRefused("1,1:1,-1000001", 6);
        isRefused("1000000:1", 0);
        isRefused("1:10000000", 2);
        // What is wrong behind such a number does not count, and the end does not.
        isRefused("100001x", 0);
        isRefused("100001", 0);
        isRefused("1:1000001,", 2);
        isRefused("1:-1000001-", 2);
        // Numbers that would come to a small one, if they wrapped round at 32 or 64 bits.
        isRefused("4294967297:1", 0);
        isRefused("-4294967297:1", 0);
        isRefused("18446744073709551617:1", 0);
        isRefused("1:4294967297", 2);
        isRefused("1:18446744073709551617", 2);
        isRefused("1:-340282366920938463463374607431768211457", 2);
    }

    private static void endOfAText() {
        Checks.sentence("the end: how many bytes there are.");
        String text = "12,0,-3:45,0,-6";
        for (int length = 0; length < text.length(); length++) {
            isRefused(text.substring(0, length), length);
        }
        isTaken(text);
    }

    private static void exactNumbers() {
        Checks.sentence("EXACT place n: its number, if no number of places 0 to n is above 100000000000000000"
                + " (10 to the 17) in size (else SPENT).");
        arePlace("10:1", 17, 100000000000000000L);
        arePlace("10:-1", 17, -100000000000000000L);
        arePlace("-10:1", 17, -100000000000000000L);
        arePlace("11,-10:0,9", 17, 99999999999999999L);
        // One above 10 to the 17, and one less than that with the other sign.
        arePlace("11,-10:2,11", 16, 10000000000000001L);
        arePlace("11,-10:2,11", 17, EXACT_SPENT);
        arePlace("11,-10:-2,-11", 17, EXACT_SPENT);
        arePlace("10:1", 18, EXACT_SPENT);
        arePlace("10:-1", 18, EXACT_SPENT);
        arePlace("10:1", 2000, EXACT_SPENT);
    }

    private static void arePlace(String text, int n, long want) {
        Checks.due("place " + n + " of " + text, Checks.with(text).exact(0, n), want);
    }

    private static void exactAheadOfABeyondOne() {
        Checks.sentence("if no number of places 0 to n is above 100000000000000000");
        // Place 8 is beyond; places 9 and on are 0 or small again for a while.
        String text = "0,100000,-1:0,0,1000000";
        long[] numbers = {0, 0, 1000000, 0, 100000000000L, -1000000, 10000000000000000L, -200000000000L};
        for (int n = 0; n < numbers.length; n++) {
            arePlace(text, n, numbers[n]);
        }
        arePlace(text, 8, EXACT_SPENT);
        arePlace(text, 9, EXACT_SPENT);
        // Each third place: 0 and 0 beside numbers that are beyond.
        arePlace("0,0,100000:0,0,1000000", 8, 10000000000000000L);
        arePlace("0,0,100000:0,0,1000000", 10, 0);
        arePlace("0,0,100000:0,0,1000000", 11, EXACT_SPENT);
        arePlace("0,0,100000:0,0,1000000", 12, EXACT_SPENT);
        arePlace("0,0,100000:0,0,1000000", 13, EXACT_SPENT);
    }

    /** Numbers that are small in 64 bits alone, and multiples beyond 64 bits that together are small. */
    private static void exactWithoutWrapping() {
        Checks.sentence("is above 100000000000000000 (10 to the 17) in size (else SPENT)");
        arePlace("65536:1", 3, 1L << 48);
        arePlace("65536:1", 4, EXACT_SPENT);
        arePlace("65536:-1", 4, EXACT_SPENT);
        arePlace("65536,65536:0,1", 4, 281483566645248L);
        arePlace("65536,65536:0,1", 5, EXACT_SPENT);
        arePlace("100000,-100000:1000000,1000000", 2, 0);
        arePlace("10010,-100000:1,10", 17, 100000000000000000L);
        arePlace("-10010,-100000:1,-10", 17, -100000000000000000L);
        arePlace("10010,-100000:1,10", 18, EXACT_SPENT);
        // The first multiples alone are 10 to the 22 and more.
        arePlace("100000,1,-100000:1000000,999999,1000000", 2000, 1000000);
        arePlace("100000,0,0,0,0,-100000:1,1,1,1,1,1", 2000, EXACT_SPENT);
    }

    private static void rests() {
        Checks.sentence("REST by m (2 to 1000000): 0 to m - 1.");
        isRest("1:-1000000", 0, 2, 0);
        isRest("1:-999999", 0, 2, 1);
        isRest("1:-1", 0, 1000000, 999999);
        isRest("1:-1000000", 0, 1000000, 0);
        isRest("1:999999", 0, 1000000, 999999);
        isRest("1:1000000", 0, 1000000, 0);
        isRest("1:1000000", 0, 999999, 1);
        isRest("-1:1", 1, 1000000, 999999);
        isRest("-100000:-1000000", 1, 999999, 100000);
        isRest("1:1", 0, 1, CarriedRows.BAD);
        isRest("1:1", 0, 0, CarriedRows.BAD);
        isRest("1:1", 0, -2, CarriedRows.BAD);
        isRest("1:1", 0, 1000001, CarriedRows.BAD);
        isRest("1:1", 0, LEAST, CarriedRows.BAD);
        isRest("1:1", 0, MOST, CarriedRows.BAD);
    }

    private static void isRest(String text, int n, int m, int want) {
        Checks.due("rest of " + text + " at " + n + " by " + m, Checks.with(text).rest(0, n, m), want);
    }

    // ---- promises

    private static void newObject() {
        Checks.sentence("As told; an empty TEXT, no NUMBERS (p is 2).");
        CarriedRows rows = new CarriedRows();
        Checks.due("bytes", rows.count(0), 0);
        Checks.due("numbers", rows.count(1), 0);
        Checks.due("orders", rows.count(2), 6);
        Checks.due("fault", rows.fault(), 0);
        Checks.due("take", rows.take(0), CarriedRows.NO);
        Checks.due("next", rows.next(), CarriedRows.NONE);
        Checks.due("L", rows.least(0), 0);
        Checks.due("breaks", rows.breaks(0), CarriedRows.NONE);
        Checks.due("2 is none by 2", rows.add(2), CarriedRows.BAD);
        Checks.due("1 is one", rows.add(1), 1);
        Checks.due("wipe", new CarriedRows().wipe(), 0);
        Checks.due("prime", new CarriedRows().prime(3), 0);
    }

    private static void write() {
        Checks.sentence("The lowest n bytes (1 to 8) of v, the highest of these first, come behind THE TEXT: how long it is.");
        long v = Checks.packed("-5,6:7,8");
        String[] lasts = {"8", ",8", "7,8", ":7,8", "6:7,8", ",6:7,8", "5,6:7,8", "-5,6:7,8"};
        String[] aheads = {"1:", "1,2:3", "1,1:", "1,2", "1,", "1", "", ""};
        String[] wholes = {"1:8", "1,2:3,8", "1,1:7,8", "1,2:7,8", "1,6:7,8", "1,6:7,8", "5,6:7,8", "-5,6:7,8"};
        for (int n = 1; n <= 8; n++) {
            CarriedRows rows = textOf(aheads[n - 1]);
            Checks.due("write(" + n + ") of " + lasts[n - 1], rows.write(n, v), aheads[n - 1].length() + n);
            rows.take(0);
            Checks.dueTo("row of " + wholes[n - 1], Checks.row(rows, 0), wholes[n - 1]);
        }
        CarriedRows rows = new CarriedRows();
        Checks.due("bytes above the lowest ones", rows.write(3, 0x8000000000000000L | Checks.packed("9:8")), 3);
        Checks.due("fault", rows.fault(), CarriedRows.NONE);
        Checks.due("a byte of 255", rows.write(1, -1L), 4);
        Checks.due("fault", rows.fault(), 3);
    }

    private static void writeRefused() {
        Checks.sentence("how long it is. BAD; FULL.");
        for (int n : new int[] {0, 9, -1, LEAST, MOST}) {
            Checks.refused("write(" + n + ")", () -> textOf("1,2:3,4"), rows -> rows.write(n, '5'), CarriedRows.BAD);
        }
    }

    private static void wipe() {
        Checks.sentence("THE TEXT is empty: how long it was.");
        CarriedRows rows = textOf("1:2");
        Checks.due("three bytes", rows.wipe(), 3);
        Checks.due("count", rows.count(0), 0);
        Checks.due("an empty one", rows.wipe(), 0);
        Checks.due("fault", rows.fault(), 0);
        for (int i = 1; i <= 25; i++) {
            rows.write(4, 0);
        }
        Checks.due("a full one", rows.wipe(), 100);
        Checks.due("there is room again", rows.write(8, 0), 8);
        // Nothing of the text that was stands behind the end.
        String text = "12,-3:45,-6";
        for (int length = 0; length < text.length(); length++) {
            CarriedRows again = textOf(text);
            Checks.put(again, text.substring(0, length));
            Checks.due("fault of " + text.substring(0, length) + " behind the whole one", again.fault(), length);
        }
    }

    private static void fault() {
        Checks.sentence("FAULT. NONE.");
        Checks.due("an empty one", new CarriedRows().fault(), 0);
        Checks.due("a whole one", textOf("1:2").fault(), CarriedRows.NONE);
        Checks.refused("fault of a whole one", () -> textOf("1:2"), rows -> rows.fault(), CarriedRows.NONE);
        Checks.refused("fault of another one", () -> textOf("1:2,"), rows -> rows.fault(), 3);
    }

    private static void take() {
        Checks.sentence("REGISTER r becomes what THE TEXT tells: its ORDER. BAD; NO: a FAULT.");
        CarriedRows rows = Checks.with("1,2,3:4,5,6", "7:8");
        Checks.due("take the same once more", rows.take(5), 1);
        Checks.dueTo("row 5", Checks.row(rows, 5), "7:8");
        Checks.due("a lesser order than was", rows.take(0), 1);
        Checks.dueTo("row 0", Checks.row(rows, 0), "7:8");
        Checks.due("the text stays", rows.count(0), 3);
        Checks.refused("take(2) of no text", CarriedRows::new, made -> made.take(2), CarriedRows.NO);
        Checks.refused("take(2) of half a row", () -> textOf("1,2:3"), made -> made.take(2), CarriedRows.NO);
        Checks.refused("take(6) of half a row", () -> textOf("1,2:3"), made -> made.take(6), CarriedRows.BAD);
        Checks.refused("take(-1)", () -> textOf("1:2"), made -> made.take(-1), CarriedRows.BAD);
    }

    private static void told() {
        Checks.sentence("Of REGISTER r: ORDER (what = 0), ci (i 1 to ORDER; 1), START i (0 to ORDER - 1; 2). BAD answers -10000000.");
        String[] texts = {"-5:-6", "11,-12:13,-14", "1,2,3:4,5,6", "1,2,3,4:5,6,7,8", "1,2,3,4,5:6,7,8,9,10", SIX};
        for (int order = 1; order <= 6; order++) {
            CarriedRows rows = Checks.with(texts[order - 1]);
            Checks.dueTo("row", Checks.row(rows, 0), texts[order - 1]);
            for (int i : new int[] {LEAST, -1, 0, order + 1, 7, MOST}) {
                Checks.due("c" + i + " of " + texts[order - 1], rows.told(0, 1, i), TOLD_BAD);
            }
            for (int i : new int[] {LEAST, -1, order, 6, 7, MOST}) {
                Checks.due("start " + i + " of " + texts[order - 1], rows.told(0, 2, i), TOLD_BAD);
            }
            for (int what : new int[] {LEAST, -1, 3, MOST}) {
                Checks.due("what " + what, rows.told(0, what, 1), TOLD_BAD);
            }
            Checks.due("ORDER, whatever i", rows.told(0, 0, -1), order);
        }
    }

    private static void exact() {
        Checks.sentence("EXACT place n (0 to 2000). BAD answers -1000000000000000000; SPENT -1000000000000000005.");
        arePlace("-1:7", 0, 7);
        arePlace("-1:7", 1999, -7);
        arePlace("-1:7", 2000, 7);
        for (int n : new int[] {LEAST, -1, 2001, MOST}) {
            arePlace("-1:7", n, EXACT_BAD);
        }
        arePlace("2:1", 56, 1L << 56);
        arePlace("2:1", 57, EXACT_SPENT);
        // BAD before SPENT.
        arePlace("2:1", 2001, EXACT_BAD);
    }

    private static void rest() {
        Checks.sentence("REST of place n (0 to 1000000000) by m. BAD.");
        isRest("1,1:0,1", 0, 10, 0);
        isRest("1,1:0,1", 1, 10, 1);
        isRest("1,1:0,1", 1000000000, 10, 5);
        isRest("1,1:0,1", 999999999, 10, 6);
        isRest("1,0,0,0,0,-1:1,2,3,4,5,6", 5, 10, 6);
        for (int n : new int[] {LEAST, -1, 1000000001, MOST}) {
            isRest("1,1:0,1", n, 10, CarriedRows.BAD);
        }
    }
}
