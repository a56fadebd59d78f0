/** Long runs of calls, told by a seed, answered alike by the class and by the plain model. */
public final class AgainstModelTest {
    private static final int[] PRIMES = {2, 3, 5, 7, 11, 13, 31, 61, 83, 89, 97};
    private static final int CALLS = 500;

    private final CarriedRows rows = new CarriedRows();
    private final PlainModel model = new PlainModel();
    private final int run;
    private long seed;
    private int numbersBy = 2;

    private AgainstModelTest(int run) {
        this.run = run;
        this.seed = run * 0x9E3779B97F4A7C15L + 12345;
    }

    public static void main(String[] args) {
        int runs = args.length > 0 ? Integer.parseInt(args[0]) : 120;
        int from = args.length > 1 ? Integer.parseInt(args[1]) : 0;
        for (int run = from; run < from + runs; run++) {
            AgainstModelTest test = new AgainstModelTest(run);
            for (int i = 0; i < CALLS;) {
                i += test.someCalls();
            }
        }
        Checks.finish("AgainstModelTest");
    }

    private int below(int bound) {
        seed = seed * 6364136223846793005L + 1442695040888963407L;
        return (int) ((seed >>> 33) % bound);
    }

    private int between(int least, int most) {
        return least + below(most - least + 1);
    }

    private boolean oneOf(int n) {
        return below(n) == 0;
    }

    /** A number that is told, now and then the first that is none. */
    private int some(int least, int most) {
        if (oneOf(40)) {
            return oneOf(2) ? least - 1 : most + 1;
        }
        return oneOf(6) ? (oneOf(2) ? least : most) : between(least, most);
    }

    private int register() {
        return some(0, 5);
    }

    private int prime() {
        return oneOf(25) ? between(-2, 102) : PRIMES[below(PRIMES.length)];
    }

    private int size() {
        int[] sizes = {1, 2, 3, 9, 100, 999, 30000, 100000, 1000000};
        return sizes[below(sizes.length)];
    }

    private String number(int most) {
        int size = oneOf(20) ? most + between(-1, 1) : Math.min(most, size());
        return String.valueOf(oneOf(3) ? 0 : oneOf(12) ? size : between(-size, size));
    }

    private String rowText() {
        int order = oneOf(3) ? between(1, 6) : between(1, 3);
        StringBuilder text = new StringBuilder();
        int most = oneOf(2) ? 3 : oneOf(2) ? 30 : 100000;
        for (int i = 1; i <= order; i++) {
            String number = number(most);
            if (i == order && number.equals("0") && !oneOf(10)) {
                number = "-1";
            }
            text.append(i > 1 ? "," : "").append(number);
        }
        int mostStart = oneOf(2) ? 5 : 1000000;
        for (int i = 0; i < order; i++) {
            text.append(i > 0 ? ',' : ':').append(number(mostStart));
        }
        return text.toString();
    }

    private String spoilt(String text) {
        StringBuilder spoilt = new StringBuilder(text);
        String signs = "0123456789,:-- x";
        for (int times = between(1, 2); times > 0; times--) {
            char sign = signs.charAt(below(signs.length()));
            int at = below(spoilt.length() + 1);
            int way = below(3);
            if (way == 0) {
                spoilt.insert(at, sign);
            } else if (way == 1 && at < spoilt.length()) {
                spoilt.setCharAt(at, sign);
            } else {
                spoilt.setLength(at);
            }
        }
        return spoilt.toString();
    }

    private void due(String call, long got, long want) {
        Checks.due("run " + run + ": " + call, got, want);
    }

    private int someCalls() {
        switch (below(9)) {
            case 0:
            case 1:
                return rowCalls();
            case 2:
                return numberCalls();
            case 3:
            case 4:
                make();
                return 2;
            default:
                return oneCall(below(11));
        }
    }

    private int rowCalls() {
        if (!oneOf(15)) {
            due("wipe", rows.wipe(), model.wipe());
        }
        String text = oneOf(4) ? spoilt(rowText()) : rowText();
        for (int at = 0; at < text.length(); at += 8) {
            String piece = text.substring(at, Math.min(text.length(), at + 8));
            long v = Checks.packed(piece) | (piece.length() < 8 ? (long) below(999) << 8 * piece.length() : 0);
            int n = oneOf(200) ? between(-1, 10) : piece.length();
            due("write " + piece, rows.write(n, v), model.write(n, v));
        }
        due("fault of " + text, rows.fault(), model.fault());
        int r = register();
        due("take(" + r + ") of " + text, rows.take(r), model.take(r));
        return 12;
    }

    private void make() {
        int to = register();
        int what = some(0, 7);
        int x = register();
        int y = oneOf(20) ? between(-9, 9) : register();
        int d = what == 4 ? some(2, 6) : what == 6 ? some(0, oneOf(3) ? 1000 : 20)
                : what == 7 ? some(-1000, 1000) : between(-9, 9);
        due("make(" + to + ", " + what + ", " + x + ", " + y + ", " + d + ")",
                rows.make(to, what, x, y, d), model.make(to, what, x, y, d));
        if (to >= 0 && to < 6) {
            tell(to);
        }
    }

    private void tell(int r) {
        for (int what = 0; what < 4; what++) {
            for (int i = -1; i < 8; i++) {
                due("told(" + r + ", " + what + ", " + i + ")", rows.told(r, what, i), model.told(r, what, i));
            }
        }
    }

    private int numberCalls() {
        if (oneOf(2)) {
            int p = oneOf(2) ? PRIMES[below(3)] : prime();
            due("prime(" + p + ")", rows.prime(p), model.prime(p));
            numbersBy = model.prime(p) == PlainModel.BAD ? numbersBy : p;
        }
        int r = below(6);
        boolean ofRow = oneOf(2);
        int more = oneOf(4) ? 41 : between(1, 12);
        for (int i = 0; i < more; i++) {
            int v = ofRow && !oneOf(40) ? model.rest(r, i, numbersBy) : some(0, numbersBy - 1);
            due("add(" + v + ")", rows.add(v), model.add(v));
        }
        tellNumbers();
        return more + 10;
    }

    private void tellNumbers() {
        int r = register();
        due("breaks(" + r + ")", rows.breaks(r), model.breaks(r));
        if (model.canTryLaws()) {
            due("next()", rows.next(), model.next());
            for (int i = -1; i <= 41; i++) {
                due("least(" + i + ")", rows.least(i), model.least(i));
            }
        }
    }

    private int oneCall(int which) {
        int r = register();
        switch (which) {
            case 0: {
                int n = oneOf(2) ? some(0, 30) : some(0, 2000);
                due("exact(" + r + ", " + n + ")", rows.exact(r, n), model.exact(r, n));
                return 1;
            }
            case 1: {
                int n = oneOf(2) ? some(0, 20) : some(0, 1000000000);
                int m = oneOf(2) ? some(2, 50) : some(2, 1000000);
                due("rest(" + r + ", " + n + ", " + m + ")", rows.rest(r, n, m), model.rest(r, n, m));
                return 1;
            }
            case 2: {
                int m = oneOf(2) ? some(2, 20) : some(2, 1000);
                m = oneOf(4) ? 2 << below(9) : m;
                int what = some(0, 2);
                due("round(" + r + ", " + m + ", " + what + ")", rows.round(r, m, what), model.round(r, m, what));
                return 1;
            }
            case 3: {
                int m = oneOf(2) ? some(2, 20) : some(2, 1000);
                int v = some(0, Math.max(0, m - 1));
                due("first(" + r + ", " + m + ", " + v + ")", rows.first(r, m, v), model.first(r, m, v));
                return 1;
            }
            case 4: {
                int n = oneOf(2) ? some(1, 20) : some(1, 1000000);
                int m = oneOf(2) ? some(2, 50) : some(2, 1000000);
                due("back(" + r + ", " + n + ", " + m + ")", rows.back(r, n, m), model.back(r, n, m));
                return 1;
            }
            case 5: {
                int p = prime();
                int i = between(-2, 7);
                due("roots(" + r + ", " + p + ", " + i + ")", rows.roots(r, p, i), model.roots(r, p, i));
                return 1;
            }
            case 6: {
                int order = some(1, 3);
                int p = between(1, 8);
                int what = some(0, 4);
                due("longest(" + order + ", " + p + ", " + what + ")", rows.longest(order, p, what),
                        model.longest(order, p, what));
                return 1;
            }
            case 7: {
                int y = oneOf(3) ? r : register();
                due("same(" + r + ", " + y + ")", rows.same(r, y), model.same(r, y));
                return 1;
            }
            case 8: {
                boolean strong = oneOf(2);
                int n = oneOf(2) ? some(2, 10) : some(2, 40);
                due("dividing(" + r + ", " + strong + ", " + n + ")", rows.dividing(r, strong, n),
                        model.dividing(r, strong, n));
                return 1;
            }
            case 9: {
                int p = oneOf(2) ? PRIMES[below(4)] : prime();
                for (int what = -1; what < 4; what++) {
                    due("parted(" + r + ", " + p + ", " + what + ")", rows.parted(r, p, what),
                            model.parted(r, p, what));
                }
                return 5;
            }
            default: {
                int what = some(0, 2);
                due("count(" + what + ")", rows.count(what), model.count(what));
                return 1;
            }
        }
    }
}
