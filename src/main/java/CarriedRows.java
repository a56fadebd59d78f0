/**
 * Rows that a law carries on: each number a told sum of multiples of the few ahead of it,
 * exact or by rests.
 */
public final class CarriedRows {
    public static final int BAD = -1, NO = -2, FULL = -3, NONE = -4, SPENT = -5;

    private static final int TOLD_BAD = -10000000;
    private static final long EXACT_BAD = -1000000000000000000L;
    private static final long EXACT_SPENT = -1000000000000000005L;

    private static final int REGISTERS = 6;
    private static final int MOST_ORDER = 6;
    private static final int MOST_LAW = 100000;
    private static final int MOST_START = 1000000;
    private static final int MOST_BYTES = 100;
    private static final long MOST_EXACT = 100000000000000000L;
    private static final int LAST_EXACT = 2000;
    private static final int LAST_PLACE = 1000000000;
    private static final int LAST_BACK = 1000000;
    private static final int MOST_REST = 1000000;
    private static final int MOST_ROUND_REST = 1000;
    private static final int MOST_PLACES = 100000;
    private static final int MOST_PRIME = 97;
    private static final int MOST_LONGEST_ORDER = 3;
    private static final int MOST_LONGEST_PRIME = 7;
    private static final int MOST_NUMBERS = 40;
    private static final int MOST_DIVIDING = 40;
    private static final int MOST_MOVED = 1000;
    private static final int MOST_TIMES = 1000;
    private static final int MOST_EACH = 6;
    private static final long MOST_SUM_OF_POWERS = 1000000000L;
    private static final long MOST_PRODUCT = 1000000000000000000L;

    private static final int SUM = 0;
    private static final int DIFFERENCE = 1;
    private static final int PLACE_BY_PLACE = 2;
    private static final int FOLD = 3;
    private static final int EACH = 4;
    private static final int SUMS_SO_FAR = 5;
    private static final int MOVED = 6;
    private static final int TIMES = 7;

    private final Text text = new Text();
    private final Row[] registers = new Row[REGISTERS];
    private final Numbers numbers = new Numbers();
    private final Rests rests = new Rests();
    private final Rounds rounds = new Rounds();
    private final Longest longestLaws = new Longest();
    private final Maker maker = new Maker();
    private final Parts parts = new Parts();
    private final long[] exactNumbers = new long[LAST_EXACT + 1];
    private final long[] otherNumbers = new long[2 * MOST_ORDER];

    public CarriedRows() {
        for (int r = 0; r < REGISTERS; r++) {
            registers[r] = new Row();
        }
    }

    // ---- rows

    public int write(int n, long v) {
        if (n < 1 || n > 8) {
            return BAD;
        }
        return text.append(n, v) ? text.length : FULL;
    }

    public int wipe() {
        int was = text.length;
        text.length = 0;
        return was;
    }

    public int fault() {
        return text.findFault();
    }

    public int take(int r) {
        if (!isRegister(r)) {
            return BAD;
        }
        if (text.findFault() != NONE) {
            return NO;
        }
        registers[r].become(text.row);
        return registers[r].order;
    }

    public int told(int r, int what, int i) {
        if (!isRegister(r)) {
            return TOLD_BAD;
        }
        Row row = registers[r];
        if (what == 0) {
            return row.order;
        }
        if (what == 1 && isIn(i, 1, row.order)) {
            return (int) row.law[i];
        }
        if (what == 2 && isIn(i, 0, row.order - 1)) {
            return (int) row.starts[i];
        }
        return TOLD_BAD;
    }

    public long exact(int r, int n) {
        if (!isRegister(r) || !isIn(n, 0, LAST_EXACT)) {
            return EXACT_BAD;
        }
        return registers[r].tellNumbers(exactNumbers, n) > n ? exactNumbers[n] : EXACT_SPENT;
    }

    public int rest(int r, int n, int m) {
        if (!isRegister(r) || !isIn(n, 0, LAST_PLACE) || !isIn(m, 2, MOST_REST)) {
            return BAD;
        }
        return rests.placeOn(registers[r], n, m);
    }

    // ---- rounds

    public int round(int r, int m, int what) {
        if (!isRegister(r) || !isIn(m, 2, MOST_ROUND_REST) || !isIn(what, 0, 2)) {
            return BAD;
        }
        if (!rounds.find(registers[r], m)) {
            return SPENT;
        }
        if (what == 0) {
            return rounds.tail;
        }
        return what == 1 ? rounds.turn : rounds.noughts(registers[r], m);
    }

    public int first(int r, int m, int v) {
        if (!isRegister(r) || !isIn(m, 2, MOST_ROUND_REST) || !isIn(v, 0, m - 1)) {
            return BAD;
        }
        if (!rounds.find(registers[r], m)) {
            return SPENT;
        }
        return rounds.leastPlaceOf(registers[r], m, v);
    }

    public int back(int r, int n, int m) {
        if (!isRegister(r) || !isIn(n, 1, LAST_BACK) || !isIn(m, 2, MOST_REST)) {
            return BAD;
        }
        Row row = registers[r];
        if (commonPart(row.law[row.order], m) != 1) {
            return NO;
        }
        return rests.placeBack(row, n, m);
    }

    public int roots(int r, int p, int i) {
        if (!isRegister(r) || !isPrime(p) || i < -1) {
            return BAD;
        }
        int seen = 0;
        for (int x = 0; x < p; x++) {
            if (registers[r].isRoot(x, p)) {
                if (seen == i) {
                    return x;
                }
                seen++;
            }
        }
        return i == -1 ? seen : NONE;
    }

    public int longest(int order, int p, int what) {
        if (!isIn(order, 1, MOST_LONGEST_ORDER) || !isPrime(p) || p > MOST_LONGEST_PRIME
                || !isIn(what, 0, 4)) {
            return BAD;
        }
        if (what - 1 > order) {
            return NONE;
        }
        longestLaws.search(order, p);
        if (what == 0) {
            return longestLaws.laws;
        }
        return what == 1 ? longestLaws.turn : (int) longestLaws.leader.law[what - 1];
    }

    // ---- numbers

    public int prime(int p) {
        if (!isPrime(p)) {
            return BAD;
        }
        int were = numbers.size;
        numbers.size = 0;
        numbers.p = p;
        return were;
    }

    public int add(int v) {
        if (!isIn(v, 0, numbers.p - 1)) {
            return BAD;
        }
        return numbers.append(v) ? numbers.size : FULL;
    }

    public int least(int i) {
        if (i < 0) {
            return BAD;
        }
        numbers.findLeastLaw();
        if (i > numbers.span) {
            return NONE;
        }
        return i == 0 ? numbers.span : numbers.law[i];
    }

    public int breaks(int r) {
        if (!isRegister(r)) {
            return BAD;
        }
        return numbers.brokenBy(registers[r]);
    }

    public int next() {
        if (numbers.size == 0) {
            return NONE;
        }
        numbers.findLeastLaw();
        return numbers.carriedOn();
    }

    // ---- made

    public int make(int to, int what, int x, int y, int d) {
        if (!isRegister(to) || !isIn(what, SUM, TIMES) || !isRegister(x)) {
            return BAD;
        }
        boolean ofTwo = what <= FOLD;
        if (ofTwo ? !isRegister(y) : !isMeasure(what, d)) {
            return BAD;
        }
        if (!maker.build(what, registers[x], registers[ofTwo ? y : x], d)) {
            return FULL;
        }
        registers[to].become(maker.made);
        return registers[to].order;
    }

    public int same(int x, int y) {
        if (!isRegister(x) || !isRegister(y)) {
            return BAD;
        }
        int places = registers[x].order + registers[y].order;
        int toldOfX = registers[x].tellNumbers(exactNumbers, places - 1);
        int toldOfY = registers[y].tellNumbers(otherNumbers, places - 1);
        int toldOfBoth = Math.min(toldOfX, toldOfY);
        for (int n = 0; n < toldOfBoth; n++) {
            if (exactNumbers[n] != otherNumbers[n]) {
                return 0;
            }
        }
        return toldOfBoth < places ? SPENT : 1;
    }

    // ---- parts

    public int dividing(int r, boolean strong, int n) {
        if (!isRegister(r) || !isIn(n, 2, MOST_DIVIDING)) {
            return BAD;
        }
        if (registers[r].tellNumbers(exactNumbers, n) <= n) {
            return SPENT;
        }
        for (int j = 2; j <= n; j++) {
            for (int i = 1; i < j; i++) {
                if (strong ? !sharesStrongly(i, j) : !divides(i, j)) {
                    return 100 * i + j;
                }
            }
        }
        return NONE;
    }

    public int parted(int r, int p, int what) {
        if (!isRegister(r) || !isPrime(p) || !isIn(what, 0, 2)) {
            return BAD;
        }
        Row row = registers[r];
        if (row.law[row.order] % p == 0) {
            return NO;
        }
        parts.part(row, p);
        if (what == 0) {
            return parts.all;
        }
        return what == 1 ? parts.greatestDegree : parts.unlike;
    }

    public int count(int what) {
        if (what == 0) {
            return text.length;
        }
        if (what == 1) {
            return numbers.size;
        }
        return what == 2 ? ordersTogether() : BAD;
    }

    private int ordersTogether() {
        int orders = 0;
        for (int r = 0; r < REGISTERS; r++) {
            orders += registers[r].order;
        }
        return orders;
    }

    /** Whether places i and j, told in exactNumbers, keep to DIVIDING. */
    private boolean divides(int i, int j) {
        return j % i != 0 || isPart(exactNumbers[i], exactNumbers[j]);
    }

    /** Whether places i and j, told in exactNumbers, keep to STRONG. */
    private boolean sharesStrongly(int i, int j) {
        int place = (int) commonPart(i, j);
        return commonPart(exactNumbers[i], exactNumbers[j]) == Math.abs(exactNumbers[place]);
    }

    private static boolean isPart(long part, long whole) {
        return part == 0 ? whole == 0 : whole % part == 0;
    }

    private static boolean isMeasure(int what, int d) {
        switch (what) {
            case EACH:
                return isIn(d, 2, MOST_EACH);
            case MOVED:
                return isIn(d, 0, MOST_MOVED);
            case TIMES:
                return isIn(d, -MOST_TIMES, MOST_TIMES);
            default:
                return true;
        }
    }

    private static boolean isRegister(int r) {
        return isIn(r, 0, REGISTERS - 1);
    }

    private static boolean isIn(int number, int least, int most) {
        return number >= least && number <= most;
    }

    private static boolean isPrime(int p) {
        if (!isIn(p, 2, MOST_PRIME)) {
            return false;
        }
        for (int part = 2; part * part <= p; part++) {
            if (p % part == 0) {
                return false;
            }
        }
        return true;
    }

    /** The greatest common part; of 0 and 0 it is 0. */
    private static long commonPart(long a, long b) {
        long greater = Math.abs(a);
        long lesser = Math.abs(b);
        // Each two steps halve the greater one, so that 128 are enough for any long.
        for (int step = 0; step < 128 && lesser != 0; step++) {
            long rest = greater % lesser;
            greater = lesser;
            lesser = rest;
        }
        return greater;
    }

    /** The rest by m that makes 1 together with a; a and m have no common part, m is 2 at least. */
    private static int inverse(long a, int m) {
        long above = m;
        long below = Math.floorMod(a, (long) m);
        long timesAbove = 0;
        long timesBelow = 1;
        for (int step = 0; step < 128 && below != 0; step++) {
            long whole = above / below;
            long rest = above - whole * below;
            long times = timesAbove - whole * timesBelow;
            above = below;
            below = rest;
            timesAbove = timesBelow;
            timesBelow = times;
        }
        return (int) Math.floorMod(timesAbove, (long) m);
    }

    /** An ORDER, a LAW and STARTS. */
    private static final class Row {
        /** Numbers are multiplied in two halves, since a multiple of 10 to the 17 is beyond a long. */
        private static final long HALF = 1000000000L;

        int order = 1;
        /** law[i] is ci; law[0] is -1: the polynomial's numbers are all of these with the other sign. */
        final long[] law = new long[MOST_ORDER + 1];
        final long[] starts = new long[MOST_ORDER];

        Row() {
            law[0] = -1;
            law[1] = 1;
        }

        void become(Row other) {
            order = other.order;
            System.arraycopy(other.law, 0, law, 0, law.length);
            System.arraycopy(other.starts, 0, starts, 0, starts.length);
        }

        /** Tells places 0 to last, up to the first that is not EXACT: how many it told. */
        int tellNumbers(long[] into, int last) {
            int end = Math.min(last, into.length - 1);
            for (int n = 0; n <= end; n++) {
                long number = n < order ? starts[n] : carriedOn(into, n);
                if (Math.abs(number) > MOST_EXACT) {
                    return n;
                }
                into[n] = number;
            }
            return end + 1;
        }

        /** Place n by the numbers ahead of it, or a number above MOST_EXACT, where it is above that. */
        private long carriedOn(long[] numbers, int n) {
            long high = 0;
            long low = 0;
            for (int i = 1; i <= order; i++) {
                long ahead = numbers[n - i];
                high += law[i] * (ahead / HALF);
                low += law[i] * (ahead % HALF);
            }
            high += low / HALF;
            if (Math.abs(high) > MOST_EXACT / HALF + 1) {
                return MOST_EXACT + 1;
            }
            return high * HALF + low % HALF;
        }

        boolean isRoot(int x, int p) {
            int value = 1;
            for (int i = 1; i <= order; i++) {
                value = (int) Math.floorMod(value * x - law[i], (long) p);
            }
            return value == 0;
        }
    }

    /** THE TEXT, and the ROW that it tells. */
    private static final class Text {
        private final int[] bytes = new int[MOST_BYTES];
        int length = 0;
        final Row row = new Row();
        /** What was read last, and the place behind it. */
        private int number;
        private int behind;

        boolean append(int n, long v) {
            if (length + n > MOST_BYTES) {
                return false;
            }
            for (int i = n - 1; i >= 0; i--) {
                bytes[length] = (int) (v >>> (8 * i) & 255);
                length++;
            }
            return true;
        }

        /** FAULT, or NONE; if NONE, row is what THE TEXT tells. */
        int findFault() {
            int fault = readLaw();
            return fault == NONE ? readStarts(behind + 1) : fault;
        }

        private int readLaw() {
            int at = 0;
            for (int i = 1; i <= MOST_ORDER; i++) {
                int fault = readNumber(at, MOST_LAW);
                if (fault != NONE) {
                    return fault;
                }
                row.law[i] = number;
                if (isByte(behind, ':')) {
                    row.order = i;
                    return number == 0 ? behind : NONE;
                }
                if (!isByte(behind, ',') || i == MOST_ORDER) {
                    return behind;
                }
                at = behind + 1;
            }
            return at;
        }

        private int readStarts(int from) {
            int at = from;
            for (int i = 0; i < row.order; i++) {
                int fault = readNumber(at, MOST_START);
                if (fault != NONE) {
                    return fault;
                }
                row.starts[i] = number;
                boolean isLast = i == row.order - 1;
                if (!isLast && !isByte(behind, ',')) {
                    return behind;
                }
                at = behind + 1;
            }
            return behind < length ? behind : NONE;
        }

        /** Reads a number of at most that size: the place of a fault, or NONE. */
        private int readNumber(int from, int most) {
            boolean isMinus = isByte(from, '-');
            int at = isMinus ? from + 1 : from;
            number = 0;
            if (isByte(at, '0') && !isMinus) {
                behind = at + 1;
                return NONE;
            }
            if (!isFigure(at) || isByte(at, '0')) {
                return at;
            }
            for (; at < length && isFigure(at); at++) {
                number = 10 * number + bytes[at] - '0';
                if (number > most) {
                    return from;
                }
            }
            number = isMinus ? -number : number;
            behind = at;
            return NONE;
        }

        private boolean isFigure(int at) {
            return at < length && bytes[at] >= '0' && bytes[at] <= '9';
        }

        private boolean isByte(int at, char sign) {
            return at < length && bytes[at] == sign;
        }
    }

    /** Places however far by rests: z to the n by the LAW's polynomial tells place n by the STARTS. */
    private static final class Rests {
        private final long[] law = new long[MOST_ORDER + 1];
        private final long[] starts = new long[MOST_ORDER];
        private final long[] power = new long[MOST_ORDER];
        private final long[] product = new long[2 * MOST_ORDER];
        private int order = 1;
        private int m = 2;

        int placeOn(Row row, int n, int by) {
            order = row.order;
            m = by;
            for (int i = 0; i < order; i++) {
                law[i + 1] = Math.floorMod(row.law[i + 1], (long) m);
                starts[i] = Math.floorMod(row.starts[i], (long) m);
            }
            return place(n);
        }

        /** The place n less than 0, told as a place of the row that runs the other way. */
        int placeBack(Row row, int n, int by) {
            order = row.order;
            m = by;
            long over = inverse(row.law[order], m);
            for (int i = 0; i < order; i++) {
                // The place the ORDER ahead counts 1, those between count less ci, all over ck.
                long times = Math.floorMod(-row.law[order - 1 - i], (long) m);
                law[i + 1] = over * times % m;
                starts[i] = Math.floorMod(row.starts[order - 1 - i], (long) m);
            }
            return place(order - 1 + n);
        }

        private int place(int n) {
            for (int i = 0; i < order; i++) {
                power[i] = i == 0 ? 1 : 0;
            }
            for (int bit = 30; bit >= 0; bit--) {
                square();
                if ((n >> bit & 1) == 1) {
                    timesZ();
                }
            }
            long sum = 0;
            for (int i = 0; i < order; i++) {
                sum += power[i] * starts[i];
            }
            return (int) (sum % m);
        }

        private void square() {
            for (int i = 0; i < 2 * order; i++) {
                product[i] = 0;
            }
            for (int i = 0; i < order; i++) {
                for (int j = 0; j < order; j++) {
                    product[i + j] += power[i] * power[j];
                }
            }
            for (int i = 2 * order - 2; i >= order; i--) {
                long top = product[i] % m;
                for (int j = 1; j <= order; j++) {
                    product[i - j] += top * law[j];
                }
            }
            for (int i = 0; i < order; i++) {
                power[i] = product[i] % m;
            }
        }

        private void timesZ() {
            long top = power[order - 1];
            for (int i = order - 1; i >= 0; i--) {
                long lower = i == 0 ? 0 : power[i - 1];
                power[i] = (lower + top * law[order - i]) % m;
            }
        }
    }

    /** Goes from STATE to STATE of a ROW by m. */
    private static final class Walk {
        private final int[] law = new int[MOST_ORDER + 1];
        /** The RESTS of the place that the walk stands at and of those behind it. */
        private final int[] state = new int[MOST_ORDER];
        private int order = 1;
        private int m = 2;
        /** What the first REST of the STATE counts in its code. */
        private long top = 1;
        /** The STATE as one number of k figures by m; m to the k is 10 to the 18 at most. */
        long code = 0;

        void begin(Row row, int by) {
            order = row.order;
            m = by;
            top = 1;
            code = 0;
            for (int i = 0; i < order; i++) {
                law[i + 1] = (int) Math.floorMod(row.law[i + 1], (long) m);
                state[i] = (int) Math.floorMod(row.starts[i], (long) m);
                code = code * m + state[i];
                top = i == 0 ? 1 : top * m;
            }
        }

        void step() {
            int sum = 0;
            for (int i = 1; i <= order; i++) {
                sum += law[i] * state[order - i];
            }
            sum %= m;
            for (int i = 1; i < order; i++) {
                state[i - 1] = state[i];
            }
            state[order - 1] = sum;
            code = code % top * m + sum;
        }

        int here() {
            return state[0];
        }
    }

    /** TAIL and ROUND of a ROW by m. */
    private static final class Rounds {
        /**
         * No TAIL is longer: by a power of a prime, e-th, what k-fold STATES can be reached shrinks at most
         * k times e times, and up to 1000 e is 9 at most.
         */
        private static final int MOST_TAIL = 9 * MOST_ORDER;
        private static final int KEPT = 64;

        private final Walk walk = new Walk();
        private final long[] early = new long[MOST_TAIL + 1];
        /** The codes of the last places, each at its place by KEPT. */
        private final long[] late = new long[KEPT];
        int tail = 0;
        int turn = 1;

        /** Whether TAIL and ROUND are not SPENT. */
        boolean find(Row row, int m) {
            walk.begin(row, m);
            for (int n = 0; n <= MOST_TAIL; n++) {
                early[n] = walk.code;
                late[n % KEPT] = walk.code;
                walk.step();
            }
            turn = findTurn();
            if (turn > MOST_PLACES) {
                return false;
            }
            tail = MOST_TAIL;
            while (tail > 0 && early[tail - 1] == late[(tail - 1 + turn) % KEPT]) {
                tail--;
            }
            return tail + turn <= MOST_PLACES;
        }

        /** After how many places the STATE of place MOST_TAIL comes again; the walk is one place on. */
        private int findTurn() {
            for (int length = 1; length <= MOST_PLACES; length++) {
                late[(MOST_TAIL + length) % KEPT] = walk.code;
                if (walk.code == early[MOST_TAIL]) {
                    return length;
                }
                walk.step();
            }
            return MOST_PLACES + 1;
        }

        int noughts(Row row, int m) {
            int seen = 0;
            walk.begin(row, m);
            for (int n = 0; n < tail + turn; n++) {
                if (walk.here() == 0) {
                    seen++;
                }
                walk.step();
            }
            return seen;
        }

        int leastPlaceOf(Row row, int m, int v) {
            walk.begin(row, m);
            for (int n = 0; n < tail + turn; n++) {
                if (walk.here() == v) {
                    return n;
                }
                walk.step();
            }
            return NONE;
        }
    }

    /** The laws whose rests go the longest way round. */
    private static final class Longest {
        private final Walk walk = new Walk();
        private final Row tried = new Row();
        final Row leader = new Row();
        int laws = 0;
        int turn = 0;

        void search(int order, int p) {
            laws = 0;
            turn = 0;
            tried.order = order;
            int codes = 1;
            for (int i = 0; i < order; i++) {
                tried.starts[i] = i == order - 1 ? 1 : 0;
                codes *= p;
            }
            for (int code = 0; code < codes; code++) {
                if (code % p != 0) {
                    tryLaw(code, p, codes);
                }
            }
        }

        /** The law's numbers are the code's figures by p, c1 the highest: lesser codes are lesser laws. */
        private void tryLaw(int code, int p, int states) {
            int left = code;
            for (int i = tried.order; i >= 1; i--) {
                tried.law[i] = left % p;
                left /= p;
            }
            int length = turnOfTried(p, states);
            if (length > turn) {
                turn = length;
                laws = 0;
                leader.become(tried);
            }
            if (length == turn) {
                laws++;
            }
        }

        /** As ck is not 0, each STATE has one STATE ahead of it alone: the first comes again first. */
        private int turnOfTried(int p, int states) {
            walk.begin(tried, p);
            long start = walk.code;
            for (int length = 1; length < states; length++) {
                walk.step();
                if (walk.code == start) {
                    return length;
                }
            }
            return states;
        }
    }

    /** NUMBERS by p, and THE LEAST LAW of them. */
    private static final class Numbers {
        private final int[] values = new int[MOST_NUMBERS];
        int size = 0;
        int p = 2;
        /** THE LEAST LAW: L, and ci at i. */
        int span = 0;
        final int[] law = new int[MOST_NUMBERS + 1];
        private final int[][] lines = new int[MOST_NUMBERS][MOST_NUMBERS + 1];
        private final int[] leads = new int[MOST_NUMBERS];
        private final Walk walk = new Walk();

        boolean append(int v) {
            if (size >= MOST_NUMBERS) {
                return false;
            }
            values[size] = v;
            size++;
            return true;
        }

        int brokenBy(Row row) {
            walk.begin(row, p);
            for (int n = 0; n < size; n++) {
                if (walk.here() != values[n]) {
                    return n;
                }
                walk.step();
            }
            return NONE;
        }

        int carriedOn() {
            int sum = 0;
            for (int i = 1; i <= span; i++) {
                sum += law[i] * values[size - i];
            }
            return sum % p;
        }

        void findLeastLaw() {
            span = 0;
            while (span < size && !solve()) {
                span++;
            }
            if (span == size) {
                solve();
            }
        }

        /**
         * Whether a law of this span carries NUMBERS on; law is then the least of such. A line tells what
         * is due of one place; cL stands first, so that a number of the law hangs on those ahead of it
         * alone, and one that is free is 0.
         */
        private boolean solve() {
            int places = size - span;
            for (int line = 0; line < places; line++) {
                System.arraycopy(values, line, lines[line], 0, span + 1);
            }
            int led = leadLines(places);
            for (int line = led; line < places; line++) {
                if (lines[line][span] != 0) {
                    return false;
                }
            }
            for (int i = 1; i <= span; i++) {
                law[i] = 0;
            }
            for (int line = 0; line < led; line++) {
                law[span - leads[line]] = lines[line][span];
            }
            return true;
        }

        /** Brings the lines into steps, each led by a 1 that stands alone in its column: how many are led. */
        private int leadLines(int places) {
            int led = 0;
            for (int column = 0; column < span && led < places; column++) {
                int lead = lineWith(column, led, places);
                if (lead < places) {
                    int[] held = lines[led];
                    lines[led] = lines[lead];
                    lines[lead] = held;
                    leads[led] = column;
                    scale(lines[led], column);
                    clear(column, led, places);
                    led++;
                }
            }
            return led;
        }

        private int lineWith(int column, int from, int places) {
            int line = from;
            while (line < places && lines[line][column] == 0) {
                line++;
            }
            return line;
        }

        private void scale(int[] line, int column) {
            int times = inverse(line[column], p);
            for (int i = column; i <= span; i++) {
                line[i] = line[i] * times % p;
            }
        }

        private void clear(int column, int led, int places) {
            for (int line = 0; line < places; line++) {
                int times = lines[line][column];
                if (line != led && times != 0) {
                    for (int i = column; i <= span; i++) {
                        lines[line][i] = (lines[line][i] + (p - times) * lines[led][i]) % p;
                    }
                }
            }
        }
    }

    /** What is MADE of ROWS. */
    private static final class Maker {
        private static final long BEYOND = MOST_PRODUCT + 1;

        final Row made = new Row();
        /** Its polynomial is z less 1. */
        private final Row ones = new Row();
        private final long[] xNumbers = new long[MOST_MOVED + MOST_ORDER];
        private final long[] yNumbers = new long[MOST_ORDER];
        private final long[] xPowers = new long[MOST_EACH * MOST_ORDER + 1];
        private final long[] yPowers = new long[MOST_ORDER + 1];

        /** Whether it is not FULL; made is it then. y is asked for what is MADE of two ROWS alone. */
        boolean build(int what, Row x, Row y, int d) {
            return makeLaw(what, x, y, d) && makeStarts(what, x, y, d);
        }

        private boolean makeLaw(int what, Row x, Row y, int d) {
            switch (what) {
                case SUM:
                case DIFFERENCE:
                case FOLD:
                    return multiplyPolynomials(x, y);
                case PLACE_BY_PLACE:
                    return multiplyRoots(x, y);
                case EACH:
                    return raiseRoots(x, d);
                case SUMS_SO_FAR:
                    return multiplyPolynomials(x, ones);
                default:
                    made.become(x);
                    return true;
            }
        }

        private boolean multiplyPolynomials(Row x, Row y) {
            if (x.order + y.order > MOST_ORDER) {
                return false;
            }
            made.order = x.order + y.order;
            for (int n = 1; n <= made.order; n++) {
                long sum = 0;
                for (int i = Math.max(0, n - y.order); i <= Math.min(n, x.order); i++) {
                    sum -= x.law[i] * y.law[n - i];
                }
                if (Math.abs(sum) > MOST_LAW) {
                    return false;
                }
                made.law[n] = sum;
            }
            return true;
        }

        private boolean multiplyRoots(Row x, Row y) {
            int order = x.order * y.order;
            if (order > MOST_ORDER || !sumPowers(x, xPowers, order) || !sumPowers(y, yPowers, order)) {
                return false;
            }
            for (int j = 1; j <= order; j++) {
                xPowers[j] *= yPowers[j];
                if (Math.abs(xPowers[j]) > MOST_SUM_OF_POWERS) {
                    return false;
                }
            }
            return lawBySums(order);
        }

        private boolean raiseRoots(Row x, int d) {
            if (!sumPowers(x, xPowers, d * x.order)) {
                return false;
            }
            for (int j = 1; j <= x.order; j++) {
                xPowers[j] = xPowers[d * j];
            }
            return lawBySums(x.order);
        }

        /** Sums of j-th powers of the ROOTS, j 1 to last: whether none is beyond. */
        private static boolean sumPowers(Row row, long[] into, int last) {
            for (int j = 1; j <= last; j++) {
                long sum = j <= row.order ? j * row.law[j] : 0;
                for (int i = 1; i <= row.order && i < j; i++) {
                    sum += row.law[i] * into[j - i];
                }
                if (Math.abs(sum) > MOST_SUM_OF_POWERS) {
                    return false;
                }
                into[j] = sum;
            }
            return true;
        }

        /** The law of that order, the sums of powers of whose ROOTS are xPowers: whether none is beyond. */
        private boolean lawBySums(int order) {
            made.order = order;
            for (int j = 1; j <= order; j++) {
                long rest = xPowers[j];
                for (int i = 1; i < j; i++) {
                    rest -= made.law[i] * xPowers[j - i];
                }
                long number = rest / j;
                if (Math.abs(number) > MOST_LAW) {
                    return false;
                }
                made.law[j] = number;
            }
            return true;
        }

        private boolean makeStarts(int what, Row x, Row y, int d) {
            int lastOfX = lastPlaceOfX(what, d);
            if (x.tellNumbers(xNumbers, lastOfX) <= lastOfX) {
                return false;
            }
            if (what <= FOLD && y.tellNumbers(yNumbers, made.order - 1) < made.order) {
                return false;
            }
            for (int n = 0; n < made.order; n++) {
                long number = numberMade(what, n, d);
                if (Math.abs(number) > MOST_START) {
                    return false;
                }
                made.starts[n] = number;
            }
            return true;
        }

        private int lastPlaceOfX(int what, int d) {
            int last = made.order - 1;
            if (what == EACH) {
                return d * last;
            }
            return what == MOVED ? d + last : last;
        }

        private long numberMade(int what, int n, int d) {
            switch (what) {
                case SUM:
                    return xNumbers[n] + yNumbers[n];
                case DIFFERENCE:
                    return xNumbers[n] - yNumbers[n];
                case PLACE_BY_PLACE:
                    return product(xNumbers[n], yNumbers[n]);
                case FOLD:
                    return fold(n);
                case EACH:
                    return xNumbers[d * n];
                case SUMS_SO_FAR:
                    return n == 0 ? xNumbers[0] : made.starts[n - 1] + xNumbers[n];
                case MOVED:
                    return xNumbers[n + d];
                default:
                    return d * xNumbers[n];
            }
        }

        private long fold(int n) {
            long sum = 0;
            for (int i = 0; i <= n; i++) {
                long product = product(xNumbers[i], yNumbers[n - i]);
                if (product == BEYOND) {
                    return BEYOND;
                }
                sum += product;
                if (Math.abs(sum) > MOST_PRODUCT) {
                    return BEYOND;
                }
            }
            return sum;
        }

        private static long product(long a, long b) {
            if (a != 0 && Math.abs(b) > MOST_PRODUCT / Math.abs(a)) {
                return BEYOND;
            }
            return a * b;
        }
    }

    /** A polynomial by a prime. */
    private static final class Poly {
        private static final int MOST_DEGREE = 2 * MOST_ORDER;

        /** numbers[i] stands at z to the i; those above the degree are 0; the degree of nought is -1. */
        final int[] numbers = new int[MOST_DEGREE + 1];
        int degree = -1;

        void become(Poly other) {
            System.arraycopy(other.numbers, 0, numbers, 0, numbers.length);
            degree = other.degree;
        }

        void becomeLaw(Row row, int p) {
            clear();
            for (int i = 0; i <= row.order; i++) {
                numbers[row.order - i] = (int) Math.floorMod(-row.law[i], (long) p);
            }
            degree = row.order;
        }

        void becomeOne() {
            clear();
            numbers[0] = 1;
            degree = 0;
        }

        void becomeZ() {
            clear();
            numbers[1] = 1;
            degree = 1;
        }

        void lessZ(int p) {
            numbers[1] = (numbers[1] + p - 1) % p;
            findDegree(Math.max(degree, 1));
        }

        /** Neither a nor b is this one; their degrees are MOST_ORDER at most. */
        void becomeProduct(Poly a, Poly b, int p) {
            clear();
            for (int i = 0; i <= a.degree; i++) {
                for (int j = 0; j <= b.degree; j++) {
                    numbers[i + j] = (numbers[i + j] + a.numbers[i] * b.numbers[j]) % p;
                }
            }
            findDegree(MOST_DEGREE);
        }

        /** Becomes what is left by the divisor, which is not nought; how often it goes in is the quotient. */
        void divideBy(Poly divisor, int p, Poly quotient) {
            quotient.clear();
            if (divisor.degree < 0) {
                return;
            }
            int over = inverse(divisor.numbers[divisor.degree], p);
            for (int shift = degree - divisor.degree; shift >= 0; shift--) {
                int times = numbers[shift + divisor.degree] * over % p;
                quotient.numbers[shift] = times;
                for (int i = 0; i <= divisor.degree; i++) {
                    int less = times * divisor.numbers[i] % p;
                    numbers[shift + i] = (numbers[shift + i] + p - less) % p;
                }
            }
            quotient.findDegree(MOST_DEGREE);
            findDegree(degree);
        }

        private void clear() {
            for (int i = 0; i <= MOST_DEGREE; i++) {
                numbers[i] = 0;
            }
            degree = -1;
        }

        private void findDegree(int from) {
            degree = from;
            while (degree >= 0 && numbers[degree] == 0) {
                degree--;
            }
        }
    }

    /** A LAW's polynomial by p in parts. */
    private static final class Parts {
        private final Poly left = new Poly();
        /** z to the (p to the d) by what is left: less z it holds each part of a degree that goes into d. */
        private final Poly power = new Poly();
        private final Poly base = new Poly();
        private final Poly product = new Poly();
        private final Poly quotient = new Poly();
        private final Poly powerLessZ = new Poly();
        private final Poly shared = new Poly();
        private final Poly other = new Poly();
        private int p = 2;
        int all = 0;
        int greatestDegree = 0;
        int unlike = 0;

        void part(Row row, int by) {
            p = by;
            all = 0;
            greatestDegree = 0;
            unlike = 0;
            left.becomeLaw(row, p);
            power.becomeZ();
            for (int d = 1; d <= row.order && left.degree > 0; d++) {
                raisePower();
                powerLessZ.become(power);
                powerLessZ.lessZ(p);
                share();
                if (shared.degree > 0) {
                    unlike += shared.degree / d;
                    greatestDegree = d;
                    takeOut(d, row.order);
                }
            }
        }

        /** Takes the parts of degree d, of which shared holds each once, out of what is left. */
        private void takeOut(int d, int order) {
            for (int step = 0; step < order && shared.degree > 0; step++) {
                all += shared.degree / d;
                other.become(left);
                other.divideBy(shared, p, quotient);
                left.become(quotient);
                share();
            }
        }

        /** The power becomes its p-th power by what is left. */
        private void raisePower() {
            base.become(power);
            power.becomeOne();
            for (int bit = 6; bit >= 0; bit--) {
                timesPower(power);
                if ((p >> bit & 1) == 1) {
                    timesPower(base);
                }
            }
        }

        private void timesPower(Poly poly) {
            product.becomeProduct(power, poly, p);
            product.divideBy(left, p, quotient);
            power.become(product);
        }

        /** The greatest common part of what is left and the power less z becomes shared. */
        private void share() {
            shared.become(left);
            other.become(powerLessZ);
            for (int step = 0; step <= 2 * MOST_ORDER && other.degree >= 0; step++) {
                shared.divideBy(other, p, quotient);
                product.become(shared);
                shared.become(other);
                other.become(product);
            }
        }
    }
}
