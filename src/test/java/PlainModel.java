import java.math.BigInteger;
import java.util.ArrayList;
import java.util.Arrays;
import java.util.HashMap;
import java.util.List;
import java.util.Map;
import java.util.TreeSet;

/**
 * The document once more, by the plainest ways there are, other ways than the class goes where that is
 * possible: big whole numbers, tables of all states, matrices, trying all laws and all parts.
 */
final class PlainModel {
    static final int BAD = -1;
    static final int NO = -2;
    static final int FULL = -3;
    static final int NONE = -4;
    static final int SPENT = -5;
    private static final BigInteger MOST_EXACT = BigInteger.TEN.pow(17);
    private static final Map<String, long[]> LONGEST = new HashMap<>();

    /** A law (law[0] is c1) and as many starts. */
    static final class Told {
        final BigInteger[] law;
        final BigInteger[] starts;

        Told(BigInteger[] law, BigInteger[] starts) {
            this.law = law;
            this.starts = starts;
        }

        int order() {
            return law.length;
        }

        BigInteger[] places(int last) {
            BigInteger[] all = new BigInteger[last + 1];
            for (int n = 0; n <= last; n++) {
                all[n] = BigInteger.ZERO;
                for (int i = 1; n >= order() && i <= order(); i++) {
                    all[n] = all[n].add(law[i - 1].multiply(all[n - i]));
                }
                if (n < order()) {
                    all[n] = starts[n];
                }
            }
            return all;
        }
    }

    private StringBuilder text = new StringBuilder();
    private final Told[] registers = new Told[6];
    private int p = 2;
    private List<Integer> numbers = new ArrayList<>();

    PlainModel() {
        for (int r = 0; r < 6; r++) {
            registers[r] = new Told(new BigInteger[] {BigInteger.ONE}, new BigInteger[] {BigInteger.ZERO});
        }
    }

    private static boolean in(long v, long least, long most) {
        return least <= v && v <= most;
    }

    private static boolean prime(int p, int most) {
        return p <= most && p > 1 && BigInteger.valueOf(p).isProbablePrime(50);
    }

    private static boolean above(BigInteger v, BigInteger most) {
        return v.abs().compareTo(most) > 0;
    }

    // ---- rows

    int write(int n, long v) {
        if (!in(n, 1, 8)) {
            return BAD;
        }
        if (text.length() + n > 100) {
            return FULL;
        }
        byte[] bytes = java.nio.ByteBuffer.allocate(8).putLong(v).array();
        for (int i = 8 - n; i < 8; i++) {
            text.append((char) (bytes[i] & 255));
        }
        return text.length();
    }

    int wipe() {
        int was = text.length();
        text = new StringBuilder();
        return was;
    }

    /** The least place of all that is wrong: each prefix is looked at by a pattern. */
    int fault() {
        String all = text.toString();
        int length = all.length();
        for (int n = 1; n <= length; n++) {
            String prefix = all.substring(0, n);
            if (!canStand(prefix)) {
                return n - 1;
            }
            int beyond = beyond(prefix);
            if (beyond >= 0) {
                return beyond;
            }
        }
        return whole(all) ? NONE : length;
    }

    private static final String NUMBER = "(0|-?[1-9][0-9]*)";
    private static final String LAST = "(|-|0|-?[1-9][0-9]*)";

    private static boolean canStand(String prefix) {
        int colon = prefix.indexOf(':');
        if (colon < 0) {
            return prefix.matches("(" + NUMBER + ",){0,5}" + LAST);
        }
        String law = prefix.substring(0, colon);
        if (!law.matches("(" + NUMBER + ",){0,5}-?[1-9][0-9]*")) {
            return false;
        }
        int order = law.split(",").length;
        return prefix.substring(colon + 1).matches("(" + NUMBER + ",){0," + (order - 1) + "}" + LAST);
    }

    private static int beyond(String prefix) {
        int colon = prefix.indexOf(':');
        int at = 0;
        for (String number : prefix.split("[,:]", -1)) {
            long most = colon >= 0 && at > colon ? 1000000 : 100000;
            if (number.matches("-?[0-9]+") && above(new BigInteger(number), BigInteger.valueOf(most))) {
                return at;
            }
            at += number.length() + 1;
        }
        return -1;
    }

    private static boolean whole(String all) {
        int colon = all.indexOf(':');
        return colon >= 0 && all.matches("[-0-9,]+:[-0-9,]*[0-9]")
                && all.substring(0, colon).split(",").length == all.substring(colon + 1).split(",").length;
    }

    int take(int r) {
        if (!in(r, 0, 5)) {
            return BAD;
        }
        if (fault() != NONE) {
            return NO;
        }
        String[] halves = text.toString().split(":");
        registers[r] = new Told(numbersOf(halves[0]), numbersOf(halves[1]));
        return registers[r].order();
    }

    private static BigInteger[] numbersOf(String half) {
        return Arrays.stream(half.split(",")).map(BigInteger::new).toArray(BigInteger[]::new);
    }

    int told(int r, int what, int i) {
        if (!in(r, 0, 5) || !in(what, 0, 2)) {
            return -10000000;
        }
        Told row = registers[r];
        if (what == 0) {
            return row.order();
        }
        if (what == 1) {
            return in(i, 1, row.order()) ? row.law[i - 1].intValueExact() : -10000000;
        }
        return in(i, 0, row.order() - 1) ? row.starts[i].intValueExact() : -10000000;
    }

    long exact(int r, int n) {
        if (!in(r, 0, 5) || !in(n, 0, 2000)) {
            return -1000000000000000000L;
        }
        BigInteger[] all = exactPlaces(registers[r], n);
        return all == null ? -1000000000000000005L : all[n].longValueExact();
    }

    /** Null, if one is above 10 to the 17. */
    private static BigInteger[] exactPlaces(Told row, int last) {
        for (int upTo = Math.min(last, 40);; upTo = last) {
            BigInteger[] all = row.places(upTo);
            for (BigInteger v : all) {
                if (above(v, MOST_EXACT)) {
                    return null;
                }
            }
            if (upTo == last) {
                return all;
            }
        }
    }

    int rest(int r, int n, int m) {
        if (!in(r, 0, 5) || !in(n, 0, 1000000000) || !in(m, 2, 1000000)) {
            return BAD;
        }
        return restOf(registers[r], n, m);
    }

    private static int restOf(Told row, int n, int m) {
        BigInteger by = BigInteger.valueOf(m);
        BigInteger[][] power = matrixPower(companion(row.law), n, by);
        BigInteger sum = BigInteger.ZERO;
        for (int j = 0; j < row.order(); j++) {
            sum = sum.add(power[0][j].multiply(row.starts[j]));
        }
        return sum.mod(by).intValueExact();
    }

    /** What brings places n .. n + k - 1 to places n + 1 .. n + k. */
    private static BigInteger[][] companion(BigInteger[] law) {
        int k = law.length;
        BigInteger[][] a = zeros(k);
        for (int i = 0; i < k; i++) {
            if (i + 1 < k) {
                a[i][i + 1] = BigInteger.ONE;
            }
            a[k - 1][i] = law[k - 1 - i];
        }
        return a;
    }

    private static BigInteger[][] zeros(int k) {
        BigInteger[][] a = new BigInteger[k][k];
        for (BigInteger[] line : a) {
            Arrays.fill(line, BigInteger.ZERO);
        }
        return a;
    }

    private static BigInteger[][] one(int k) {
        BigInteger[][] a = zeros(k);
        for (int i = 0; i < k; i++) {
            a[i][i] = BigInteger.ONE;
        }
        return a;
    }

    private static BigInteger[][] times(BigInteger[][] a, BigInteger[][] b, BigInteger by) {
        int k = a.length;
        BigInteger[][] c = zeros(k);
        for (int i = 0; i < k; i++) {
            for (int j = 0; j < k; j++) {
                for (int l = 0; l < k; l++) {
                    c[i][j] = c[i][j].add(a[i][l].multiply(b[l][j]));
                }
                c[i][j] = by == null ? c[i][j] : c[i][j].mod(by);
            }
        }
        return c;
    }

    private static BigInteger[][] matrixPower(BigInteger[][] a, int n, BigInteger by) {
        BigInteger[][] result = one(a.length);
        BigInteger[][] square = a;
        for (int left = n; left > 0; left >>= 1) {
            if ((left & 1) == 1) {
                result = times(result, square, by);
            }
            square = times(square, square, by);
        }
        return result;
    }

    // ---- rounds

    /** Tail, round and the rests of places 0 to both together less 1; null, if SPENT. */
    private static int[][] roundOf(Told row, int m) {
        int k = row.order();
        int[] law = new int[k];
        int[] state = new int[k];
        BigInteger by = BigInteger.valueOf(m);
        for (int i = 0; i < k; i++) {
            law[i] = row.law[i].mod(by).intValue();
            state[i] = row.starts[i].mod(by).intValue();
        }
        Map<List<Integer>, Integer> seen = new HashMap<>();
        int[] rests = new int[100001];
        for (int n = 0; n <= 100000; n++) {
            List<Integer> key = new ArrayList<>();
            for (int v : state) {
                key.add(v);
            }
            Integer before = seen.put(key, n);
            if (before != null) {
                return new int[][] {{before, n - before}, Arrays.copyOf(rests, n)};
            }
            rests[n] = state[0];
            int next = 0;
            for (int i = 1; i <= k; i++) {
                next = (next + law[i - 1] * state[k - i]) % m;
            }
            state = Arrays.copyOfRange(state, 1, k + 1);
            state[k - 1] = next;
        }
        return null;
    }

    int round(int r, int m, int what) {
        if (!in(r, 0, 5) || !in(m, 2, 1000) || !in(what, 0, 2)) {
            return BAD;
        }
        int[][] round = roundOf(registers[r], m);
        if (round == null) {
            return SPENT;
        }
        return what < 2 ? round[0][what] : (int) Arrays.stream(round[1]).filter(v -> v == 0).count();
    }

    int first(int r, int m, int v) {
        if (!in(r, 0, 5) || !in(m, 2, 1000) || !in(v, 0, m - 1)) {
            return BAD;
        }
        int[][] round = roundOf(registers[r], m);
        if (round == null) {
            return SPENT;
        }
        for (int n = 0; n < round[1].length; n++) {
            if (round[1][n] == v) {
                return n;
            }
        }
        return NONE;
    }

    int back(int r, int n, int m) {
        if (!in(r, 0, 5) || !in(n, 1, 1000000) || !in(m, 2, 1000000)) {
            return BAD;
        }
        Told row = registers[r];
        int k = row.order();
        BigInteger by = BigInteger.valueOf(m);
        if (!row.law[k - 1].gcd(by).equals(BigInteger.ONE)) {
            return NO;
        }
        BigInteger over = row.law[k - 1].modInverse(by);
        BigInteger[][] a = zeros(k);
        for (int i = 0; i < k; i++) {
            a[0][i] = (i == k - 1 ? BigInteger.ONE : row.law[k - 2 - i].negate()).multiply(over).mod(by);
            if (i > 0) {
                a[i][i - 1] = BigInteger.ONE;
            }
        }
        BigInteger[][] power = matrixPower(a, n, by);
        BigInteger sum = BigInteger.ZERO;
        for (int j = 0; j < k; j++) {
            sum = sum.add(power[0][j].multiply(row.starts[j]));
        }
        return sum.mod(by).intValueExact();
    }

    int roots(int r, int p, int i) {
        if (!in(r, 0, 5) || !prime(p, 97) || i < -1) {
            return BAD;
        }
        Told row = registers[r];
        List<Integer> roots = new ArrayList<>();
        for (int x = 0; x < p; x++) {
            BigInteger v = BigInteger.valueOf(x).pow(row.order());
            for (int j = 1; j <= row.order(); j++) {
                v = v.subtract(row.law[j - 1].multiply(BigInteger.valueOf(x).pow(row.order() - j)));
            }
            if (v.mod(BigInteger.valueOf(p)).signum() == 0) {
                roots.add(x);
            }
        }
        if (i == -1) {
            return roots.size();
        }
        return i < roots.size() ? roots.get(i) : NONE;
    }

    int longest(int order, int p, int what) {
        if (!in(order, 1, 3) || !prime(p, 7) || !in(what, 0, 4)) {
            return BAD;
        }
        long[] all = LONGEST.computeIfAbsent(order + " " + p, key -> longestOf(order, p));
        return what - 1 > order ? NONE : (int) all[what];
    }

    private static long[] longestOf(int order, int p) {
        long[] best = new long[5];
        for (int c1 = 0; c1 < p; c1++) {
            for (int c2 = 0; c2 < (order > 1 ? p : 1); c2++) {
                for (int c3 = 0; c3 < (order > 2 ? p : 1); c3++) {
                    int[] c = Arrays.copyOf(new int[] {c1, c2, c3}, order);
                    if (c[order - 1] == 0) {
                        continue;
                    }
                    BigInteger[] law = new BigInteger[order];
                    BigInteger[] starts = new BigInteger[order];
                    for (int i = 0; i < order; i++) {
                        law[i] = BigInteger.valueOf(c[i]);
                        starts[i] = BigInteger.valueOf(i == order - 1 ? 1 : 0);
                    }
                    int round = roundOf(new Told(law, starts), p)[0][1];
                    if (round > best[1]) {
                        best = new long[] {0, round, c1, c2, c3};
                    }
                    best[0] += round == best[1] ? 1 : 0;
                }
            }
        }
        return best;
    }

    // ---- numbers

    int prime(int by) {
        if (!prime(by, 97)) {
            return BAD;
        }
        int were = numbers.size();
        numbers = new ArrayList<>();
        p = by;
        return were;
    }

    int add(int v) {
        if (!in(v, 0, p - 1)) {
            return BAD;
        }
        if (numbers.size() == 40) {
            return FULL;
        }
        numbers.add(v);
        return numbers.size();
    }

    /** Whether trying all laws ends in time. */
    boolean canTryLaws() {
        int span = leastSpan();
        return span * Math.log(p) < Math.log(20000) || 2 * span <= numbers.size();
    }

    /** By shortest shift registers (Berlekamp and Massey); the class solves equations instead. */
    private int leastSpan() {
        int size = numbers.size();
        int[] c = new int[size + 2];
        int[] b = new int[size + 2];
        c[0] = 1;
        b[0] = 1;
        int span = 0;
        int since = 1;
        int last = 1;
        for (int n = 0; n < size; n++) {
            int d = 0;
            for (int i = 0; i <= span; i++) {
                d = (d + c[i] * numbers.get(n - i)) % p;
            }
            if (d == 0) {
                since++;
                continue;
            }
            int[] held = c.clone();
            int times = d * BigInteger.valueOf(last).modInverse(BigInteger.valueOf(p)).intValue() % p;
            for (int i = 0; i + since < c.length; i++) {
                c[i + since] = Math.floorMod(c[i + since] - times * b[i], p);
            }
            if (2 * span <= n) {
                span = n + 1 - span;
                b = held;
                last = d;
                since = 1;
            } else {
                since++;
            }
            lastConnection = c;
        }
        return span;
    }

    private int[] lastConnection = {1};

    private int[] leastLaw() {
        int span = leastSpan();
        int[] law = new int[span];
        if (span == 0) {
            return law;
        }
        if (2 * span <= numbers.size()) {
            for (int i = 0; i < span; i++) {
                law[i] = Math.floorMod(-lastConnection[i + 1], p);
            }
            return law;
        }
        while (!carries(law)) {
            int i = span - 1;
            while (law[i] == p - 1) {
                law[i] = 0;
                i--;
            }
            law[i]++;
        }
        return law;
    }

    private boolean carries(int[] law) {
        for (int n = law.length; n < numbers.size(); n++) {
            if (told(law, n) != numbers.get(n)) {
                return false;
            }
        }
        return true;
    }

    private int told(int[] law, int n) {
        int sum = 0;
        for (int i = 1; i <= law.length; i++) {
            sum += law[i - 1] * numbers.get(n - i);
        }
        return sum % p;
    }

    int least(int i) {
        if (i < 0) {
            return BAD;
        }
        int[] law = leastLaw();
        if (i > law.length) {
            return NONE;
        }
        return i == 0 ? law.length : law[i - 1];
    }

    int breaks(int r) {
        if (!in(r, 0, 5)) {
            return BAD;
        }
        for (int n = 0; n < numbers.size(); n++) {
            if (restOf(registers[r], n, p) != numbers.get(n)) {
                return n;
            }
        }
        return NONE;
    }

    int next() {
        return numbers.isEmpty() ? NONE : told(leastLaw(), numbers.size());
    }

    // ---- made

    int make(int to, int what, int x, int y, int d) {
        if (!in(to, 0, 5) || !in(what, 0, 7) || !in(x, 0, 5) || what < 4 && !in(y, 0, 5)
                || what == 4 && !in(d, 2, 6) || what == 6 && !in(d, 0, 1000)
                || what == 7 && !in(d, -1000, 1000)) {
            return BAD;
        }
        Told made = made(what, registers[x], what < 4 ? registers[y] : null, d);
        if (made == null) {
            return FULL;
        }
        registers[to] = made;
        return made.order();
    }

    private static Told made(int what, Told x, Told y, int d) {
        BigInteger[] law = lawMade(what, x, y, d);
        if (law == null) {
            return null;
        }
        for (BigInteger c : law) {
            if (above(c, BigInteger.valueOf(100000))) {
                return null;
            }
        }
        int k = law.length;
        int last = what == 4 ? d * (k - 1) : what == 6 ? d + k - 1 : k - 1;
        BigInteger[] xs = exactPlaces(x, last);
        BigInteger[] ys = y == null ? xs : exactPlaces(y, k - 1);
        if (xs == null || ys == null) {
            return null;
        }
        BigInteger[] starts = new BigInteger[k];
        for (int n = 0; n < k; n++) {
            starts[n] = startMade(what, xs, ys, n, d);
            if (starts[n] == null || above(starts[n], BigInteger.valueOf(1000000))) {
                return null;
            }
        }
        return new Told(law, starts);
    }

    private static BigInteger startMade(int what, BigInteger[] xs, BigInteger[] ys, int n, int d) {
        BigInteger most = BigInteger.TEN.pow(18);
        BigInteger sum = BigInteger.ZERO;
        switch (what) {
            case 0:
                return xs[n].add(ys[n]);
            case 1:
                return xs[n].subtract(ys[n]);
            case 2:
                return xs[n].multiply(ys[n]);
            case 3:
                for (int i = 0; i <= n; i++) {
                    BigInteger product = xs[i].multiply(ys[n - i]);
                    sum = sum.add(product);
                    if (above(product, most) || above(sum, most)) {
                        return null;
                    }
                }
                return sum;
            case 4:
                return xs[d * n];
            case 5:
                for (int i = 0; i <= n; i++) {
                    sum = sum.add(xs[i]);
                }
                return sum;
            case 6:
                return xs[n + d];
            default:
                return xs[n].multiply(BigInteger.valueOf(d));
        }
    }

    private static BigInteger[] lawMade(int what, Told x, Told y, int d) {
        switch (what) {
            case 0:
            case 1:
            case 3:
                return productLaw(x.law, y.law);
            case 2:
                return pairLaw(x.law, y.law);
            case 4:
                return tooGreat(x.law, d * x.order()) ? null
                        : lawOf(matrixPower(companion(x.law), d, null));
            case 5:
                return productLaw(x.law, new BigInteger[] {BigInteger.ONE});
            default:
                return x.law;
        }
    }

    private static BigInteger[] productLaw(BigInteger[] a, BigInteger[] b) {
        int k = a.length + b.length;
        if (k > 6) {
            return null;
        }
        BigInteger[] product = new BigInteger[k + 1];
        Arrays.fill(product, BigInteger.ZERO);
        for (int i = 0; i <= a.length; i++) {
            for (int j = 0; j <= b.length; j++) {
                BigInteger u = i == 0 ? BigInteger.ONE : a[i - 1].negate();
                BigInteger v = j == 0 ? BigInteger.ONE : b[j - 1].negate();
                product[i + j] = product[i + j].add(u.multiply(v));
            }
        }
        BigInteger[] law = new BigInteger[k];
        for (int i = 1; i <= k; i++) {
            law[i - 1] = product[i].negate();
        }
        return law;
    }

    /** The law of the matrix whose places are pairs of places of both. */
    private static BigInteger[] pairLaw(BigInteger[] a, BigInteger[] b) {
        int k = a.length * b.length;
        if (k > 6 || tooGreat(a, k) || tooGreat(b, k)) {
            return null;
        }
        BigInteger[][] x = companion(a);
        BigInteger[][] y = companion(b);
        BigInteger[][] pairs = zeros(k);
        for (int i = 0; i < k; i++) {
            for (int j = 0; j < k; j++) {
                pairs[i][j] = x[i / b.length][j / b.length].multiply(y[i % b.length][j % b.length]);
            }
        }
        BigInteger[] law = lawOf(pairs);
        return tooGreat(law, k) ? null : law;
    }

    /** Whether a sum of j-th powers of the roots, j from 1 to last, is above 10 to the 9. */
    private static boolean tooGreat(BigInteger[] law, int last) {
        BigInteger[][] a = companion(law);
        BigInteger[][] power = one(law.length);
        for (int j = 1; j <= last; j++) {
            power = times(power, a, null);
            if (above(trace(power), BigInteger.TEN.pow(9))) {
                return true;
            }
        }
        return false;
    }

    private static BigInteger trace(BigInteger[][] a) {
        BigInteger sum = BigInteger.ZERO;
        for (int i = 0; i < a.length; i++) {
            sum = sum.add(a[i][i]);
        }
        return sum;
    }

    /** The law of a matrix' own polynomial (Faddeev and LeVerrier). */
    private static BigInteger[] lawOf(BigInteger[][] a) {
        int k = a.length;
        BigInteger[] law = new BigInteger[k];
        BigInteger[][] m = one(k);
        for (int j = 1; j <= k; j++) {
            BigInteger[][] am = times(a, m, null);
            law[j - 1] = trace(am).divide(BigInteger.valueOf(j));
            m = am;
            for (int i = 0; i < k; i++) {
                m[i][i] = m[i][i].subtract(law[j - 1]);
            }
        }
        return law;
    }

    int same(int x, int y) {
        if (!in(x, 0, 5) || !in(y, 0, 5)) {
            return BAD;
        }
        int places = registers[x].order() + registers[y].order();
        BigInteger[] xs = registers[x].places(places - 1);
        BigInteger[] ys = registers[y].places(places - 1);
        for (int n = 0; n < places; n++) {
            if (above(xs[n], MOST_EXACT) || above(ys[n], MOST_EXACT)) {
                return SPENT;
            }
            if (!xs[n].equals(ys[n])) {
                return 0;
            }
        }
        return 1;
    }

    // ---- parts

    int dividing(int r, boolean strong, int n) {
        if (!in(r, 0, 5) || !in(n, 2, 40)) {
            return BAD;
        }
        BigInteger[] all = exactPlaces(registers[r], n);
        if (all == null) {
            return SPENT;
        }
        for (int j = 1; j <= n; j++) {
            for (int i = 1; i < j; i++) {
                int place = BigInteger.valueOf(i).gcd(BigInteger.valueOf(j)).intValue();
                boolean wrong = strong ? !all[i].gcd(all[j]).equals(all[place].abs())
                        : j % i == 0 && !(all[i].signum() == 0 ? all[j].signum() == 0
                                : all[j].mod(all[i].abs()).signum() == 0);
                if (wrong) {
                    return 100 * i + j;
                }
            }
        }
        return NONE;
    }

    /** By trying all polynomials of lesser degree. */
    int parted(int r, int p, int what) {
        if (!in(r, 0, 5) || !prime(p, 97) || !in(what, 0, 2)) {
            return BAD;
        }
        Told row = registers[r];
        int k = row.order();
        if (row.law[k - 1].mod(BigInteger.valueOf(p)).signum() == 0) {
            return NO;
        }
        int[] left = new int[k + 1];
        left[k] = 1;
        for (int i = 1; i <= k; i++) {
            left[k - i] = row.law[i - 1].negate().mod(BigInteger.valueOf(p)).intValue();
        }
        List<String> parts = new ArrayList<>();
        int greatest = 0;
        for (int degree = 1; 2 * degree <= left.length - 1; degree++) {
            int all = BigInteger.valueOf(p).pow(degree).intValueExact();
            for (int code = 0; code < all && 2 * degree <= left.length - 1; code++) {
                int[] part = new int[degree + 1];
                part[degree] = 1;
                for (int i = 0, c = code; i < degree; i++, c /= p) {
                    part[i] = c % p;
                }
                int[] over = over(left, part, p);
                while (over != null) {
                    left = over;
                    parts.add(Arrays.toString(part));
                    greatest = degree;
                    over = over(left, part, p);
                }
            }
        }
        if (left.length > 1) {
            parts.add(Arrays.toString(left));
            greatest = Math.max(greatest, left.length - 1);
        }
        return what == 0 ? parts.size() : what == 1 ? greatest : new TreeSet<>(parts).size();
    }

    /** Null, if the part, whose highest number is 1, does not go in. */
    private static int[] over(int[] whole, int[] part, int p) {
        if (part.length > whole.length) {
            return null;
        }
        int[] rest = whole.clone();
        int[] over = new int[whole.length - part.length + 1];
        for (int i = over.length - 1; i >= 0; i--) {
            over[i] = rest[i + part.length - 1];
            for (int j = 0; j < part.length; j++) {
                rest[i + j] = Math.floorMod(rest[i + j] - over[i] * part[j], p);
            }
        }
        for (int v : rest) {
            if (v != 0) {
                return null;
            }
        }
        return over;
    }

    int count(int what) {
        switch (what) {
            case 0:
                return text.length();
            case 1:
                return numbers.size();
            case 2:
                return Arrays.stream(registers).mapToInt(Told::order).sum();
            default:
                return BAD;
        }
    }
}
