/**
 * A bench for arithmetic in small number formats with several rounding modes.
 *
 * <p>All values are integers that stand for v / 1024. An exact number is held as a numerator in
 * units of 2^-20 over a divisor that is 1 for everything but a quotient, so that the account's unit
 * is the numerator's own and nothing is ever lost in a long.
 */
public final class StochasticBench {
    public static final int BAD = -2000000001, STATE = -2000000002, FULL = -2000000003, NONE = -2000000009;

    private static final int FORMATS = 4;
    private static final int REGISTERS = 8;
    private static final int MODES = 5;
    private static final int KINDS = 6;
    private static final int GREATEST_VALUE = 1048575;
    private static final int GREATEST_BYTE = 127;
    private static final int GREATEST_BITS = 8;
    private static final int GREATEST_ENSEMBLE = 8;
    private static final int TOLD = 18;
    private static final int SUMS = 7;

    /** A value's unit is 2^-10. */
    private static final int FRACTION_BITS = 10;

    private static final int MODE_DOWN = 0;
    private static final int MODE_UP = 1;
    private static final int MODE_TO_ZERO = 2;
    private static final int MODE_NEAREST = 3;
    private static final int MODE_STOCHASTIC = 4;

    private static final int KIND_COPY = 0;
    private static final int KIND_SUM = 1;
    private static final int KIND_DIFFERENCE = 2;
    private static final int KIND_PRODUCT = 3;
    private static final int KIND_FUSED = 4;
    private static final int KIND_QUOTIENT = 5;

    private static final int FLAG_OVERFLOW = 1;
    private static final int FLAG_ABSORBED = 2;

    private static final int STOP_NONE = 0;
    private static final int STOP_LIMIT = 1;
    private static final int STOP_ZERO = 2;

    private final Setting setting = new Setting();
    private final Ledger ledger = new Ledger();
    private final History history = new History();
    private final Program program = new Program();
    private final Runner runner = new Runner();
    /** The registers of a run that only might be; it is kept so that such a run makes no objects. */
    private final Setting trial = new Setting();
    private final Operation work = new Operation();
    private int lastStop = STOP_NONE;

    public StochasticBench() {
    }

    // ---- formats and registers

    public int setFormat(int f, int p, int q, int h) {
        if (!isFormat(f) || !Format.isPossible(p, q, h)) {
            return BAD;
        }
        remember();
        int before = setting.formats[f].precision;
        setting.formats[f].define(p, q, h);
        setting.emptyRegistersOf(f);
        return before;
    }

    public int setRegister(int r, int f) {
        if (!isRegister(r) || !isFormat(f)) {
            return BAD;
        }
        remember();
        int before = setting.formatNumbers[r];
        setting.formatNumbers[r] = f;
        setting.values[r] = 0;
        return before;
    }

    public int setValue(int r, int v) {
        if (!isRegister(r) || !isInRange(v)) {
            return BAD;
        }
        remember();
        work.setFraction((long) v << FRACTION_BITS, 1);
        work.findNeighbors(setting.formatAt(r));
        setting.values[r] = work.rounded(MODE_NEAREST, 0);
        return setting.values[r];
    }

    public int setMode(int m) {
        if (!isMode(m)) {
            return BAD;
        }
        remember();
        int before = setting.mode;
        setting.mode = m;
        return before;
    }

    public int setBits(int b) {
        if (b < 1 || b > GREATEST_BITS) {
            return BAD;
        }
        remember();
        int before = setting.bits;
        setting.bits = b;
        return before;
    }

    public int setSeed(int s) {
        remember();
        int before = setting.seed;
        setting.seed = s;
        return before;
    }

    public int value(int r) {
        return isRegister(r) ? setting.values[r] : BAD;
    }

    public int formatOf(int r) {
        return isRegister(r) ? setting.formatNumbers[r] : BAD;
    }

    // ---- operations and programs

    public int operate(int kind, int t, int a, int b) {
        if (kind < 0 || kind >= KINDS || !isRegister(t) || !isRegister(a) || !isRegister(b)) {
            return BAD;
        }
        int code = Operation.codeOf(kind, t, a, b);
        if (!setting.canCarryOut(code)) {
            return STATE;
        }
        remember();
        setting.carryOut(code, work);
        ledger.enter(work);
        return work.outcome;
    }

    public int type(int c) {
        if (c < 0 || c > GREATEST_BYTE) {
            return BAD;
        }
        return program.append(c) ? program.length : FULL;
    }

    public int clear() {
        int before = program.length;
        program.length = 0;
        return before;
    }

    public int fault() {
        return program.read();
    }

    public int run() {
        if (program.read() != NONE) {
            return STATE;
        }
        remember();
        runner.carryOut(program, setting, work, ledger);
        lastStop = runner.stop;
        return runner.done;
    }

    public int stopped() {
        return lastStop;
    }

    public int ifRun(int r, int mode, int seed) {
        if (!isRegister(r) || !isMode(mode)) {
            return BAD;
        }
        return program.read() == NONE ? valueAfterTrial(r, mode, seed) : STATE;
    }

    public int ensembleSum(int r, int seed, int k) {
        if (!isRegister(r) || !isEnsemble(k)) {
            return BAD;
        }
        if (program.read() != NONE) {
            return STATE;
        }
        int sum = 0;
        for (int i = 0; i < k; i++) {
            sum += valueAfterTrial(r, MODE_STOCHASTIC, seed + i);
        }
        return sum;
    }

    public int ensembleSpread(int r, int seed, int k) {
        if (!isRegister(r) || !isEnsemble(k)) {
            return BAD;
        }
        if (program.read() != NONE) {
            return STATE;
        }
        int least = GREATEST_VALUE;
        int greatest = -GREATEST_VALUE;
        for (int i = 0; i < k; i++) {
            int v = valueAfterTrial(r, MODE_STOCHASTIC, seed + i);
            least = Math.min(least, v);
            greatest = Math.max(greatest, v);
        }
        return greatest - least;
    }

    // ---- records

    public int records() {
        return ledger.size;
    }

    public int numberOf(int i) {
        return ledger.has(i) ? ledger.at(i).number : BAD;
    }

    public int operation(int i) {
        return ledger.has(i) ? ledger.at(i).decimalCode() : BAD;
    }

    public int result(int i) {
        return ledger.has(i) ? ledger.at(i).outcome : BAD;
    }

    public int neighbor(int i, boolean upper) {
        if (!ledger.has(i)) {
            return BAD;
        }
        return upper ? ledger.at(i).upper : ledger.at(i).lower;
    }

    public int drawOf(int i) {
        return ledger.has(i) ? ledger.at(i).draw : BAD;
    }

    public int flags(int i) {
        return ledger.has(i) ? ledger.at(i).marks : BAD;
    }

    public long exactNumerator(int i) {
        if (!ledger.has(i)) {
            return BAD;
        }
        Operation o = ledger.at(i);
        return lowestNumerator(o.numerator, o.denominator());
    }

    public long exactDenominator(int i) {
        if (!ledger.has(i)) {
            return BAD;
        }
        Operation o = ledger.at(i);
        return lowestDenominator(o.numerator, o.denominator());
    }

    public int replay(int i, int mode, int seed) {
        if (!ledger.has(i) || !isMode(mode)) {
            return BAD;
        }
        Operation o = ledger.at(i);
        return o.rounded(mode, Operation.drawFor(o.number, seed, o.bits));
    }

    public long mean(int i) {
        return ledger.has(i) ? ledger.at(i).average() : BAD;
    }

    public long biasNumerator(int i) {
        if (!ledger.has(i)) {
            return BAD;
        }
        Operation o = ledger.at(i);
        return lowestNumerator(o.offset(), o.denominator());
    }

    public long biasDenominator(int i) {
        if (!ledger.has(i)) {
            return BAD;
        }
        Operation o = ledger.at(i);
        return lowestDenominator(o.offset(), o.denominator());
    }

    public long variance(int i) {
        return ledger.has(i) ? ledger.at(i).scatter() : BAD;
    }

    // ---- the account

    public long account(int what) {
        return what < 0 || what >= SUMS ? BAD : ledger.sums[what];
    }

    public int clearAccount() {
        remember();
        int before = (int) (ledger.sums[Ledger.SUM_OTHERS] & Integer.MAX_VALUE);
        ledger.clearSums();
        return before;
    }

    // ---- formats explored

    public int isValue(int f, int v) {
        if (!isFormat(f) || !isInRange(v)) {
            return BAD;
        }
        return setting.formats[f].has(v) ? 1 : 0;
    }

    public int next(int f, int v, boolean down) {
        if (!isFormat(f) || !isInRange(v)) {
            return BAD;
        }
        Format format = setting.formats[f];
        // The values lie the same way on both sides of 0, so what is above v is sought below -v.
        int from = down ? v : -v;
        if (from <= -format.top()) {
            return NONE;
        }
        int found = format.atMost(from - 1);
        return down ? found : -found;
    }

    public int countValues(int f) {
        return isFormat(f) ? setting.formats[f].countUpTo(GREATEST_VALUE) : BAD;
    }

    public int between(int f, int v, int w) {
        if (!isFormat(f) || !isInRange(v) || !isInRange(w) || w < v) {
            return BAD;
        }
        Format format = setting.formats[f];
        return format.countUpTo(w) - format.countUpTo(v - 1);
    }

    public int contains(int f, int g) {
        if (!isFormat(f) || !isFormat(g)) {
            return BAD;
        }
        return setting.formats[f].covers(setting.formats[g]) ? 1 : 0;
    }

    // ---- the whole

    public int undo() {
        return history.restore(setting, ledger) ? history.size : STATE;
    }

    public int told(int what) {
        if (what < 0 || what >= TOLD) {
            return BAD;
        }
        switch (what) {
            case 0:
                return setting.mode;
            case 1:
                return setting.bits;
            case 2:
                return setting.seed;
            case 3:
                return setting.nextNumber;
            case 4:
                return history.size;
            case 5:
                return program.length;
            default:
                return toldOfFormats(what - 6);
        }
    }

    public long digest() {
        long h = 18432;
        for (int what = 0; what < TOLD; what++) {
            h = 31 * h + told(what);
        }
        for (int r = 0; r < REGISTERS; r++) {
            h = 31 * h + formatOf(r);
            h = 31 * h + value(r);
        }
        for (int what = 0; what < SUMS; what++) {
            h = 31 * h + account(what);
        }
        h = 31 * h + stopped();
        for (int i = 0; i < ledger.size; i++) {
            h = ledger.at(i).addedTo(h);
        }
        return h;
    }

    // ---- helpers

    private static boolean isFormat(int f) {
        return f >= 0 && f < FORMATS;
    }

    private static boolean isRegister(int r) {
        return r >= 0 && r < REGISTERS;
    }

    private static boolean isMode(int m) {
        return m >= 0 && m < MODES;
    }

    private static boolean isEnsemble(int k) {
        return k >= 1 && k <= GREATEST_ENSEMBLE;
    }

    private static boolean isInRange(int v) {
        return v >= -GREATEST_VALUE && v <= GREATEST_VALUE;
    }

    private void remember() {
        history.keep(setting, ledger);
    }

    /** The program must have been read without a fault. */
    private int valueAfterTrial(int r, int mode, int seed) {
        trial.copyFrom(setting);
        trial.mode = mode;
        trial.seed = seed;
        runner.carryOut(program, trial, work, null);
        return trial.values[r];
    }

    private int toldOfFormats(int place) {
        Format format = setting.formats[place & (FORMATS - 1)];
        if (place < FORMATS) {
            return format.precision;
        }
        return place < 2 * FORMATS ? format.least : format.greatest;
    }

    private static long lowestNumerator(long numerator, long denominator) {
        long d = commonDivisor(numerator, denominator);
        return d > 1 ? numerator / d : numerator;
    }

    private static long lowestDenominator(long numerator, long denominator) {
        long d = commonDivisor(numerator, denominator);
        return d > 1 ? denominator / d : denominator;
    }

    private static long commonDivisor(long numerator, long denominator) {
        long a = Math.abs(numerator);
        long b = denominator;
        // Euclid needs fewer than 100 steps for any two longs.
        for (int i = 0; i < 100 && b > 0; i++) {
            long rest = a % b;
            a = b;
            b = rest;
        }
        return a;
    }

    /** A format; sizes are absolute values, in the unit of all values. */
    private static final class Format {
        int precision = 4;
        int least = -4;
        int greatest = 3;

        static boolean isPossible(int p, int q, int h) {
            return p >= 1 && p <= 10 && q >= -10 && q <= 0 && h >= 0 && h <= 9 && p + h <= 10;
        }

        void define(int p, int q, int h) {
            precision = p;
            least = q;
            greatest = h;
        }

        int top() {
            return ((1 << precision) - 1) << (greatest + FRACTION_BITS);
        }

        /** The values next to a size lie 2 to the power of this apart. */
        int spacingBits(int size) {
            int last = greatest + FRACTION_BITS;
            int bits = least + FRACTION_BITS;
            while (bits < last && size >> bits >= 1 << precision) {
                bits++;
            }
            return bits;
        }

        /** The greatest value that is at most v; the outermost one for a v beyond it. */
        int atMost(int v) {
            int top = top();
            int bounded = Math.max(-top, Math.min(v, top));
            int bits = spacingBits(Math.abs(bounded));
            return bounded >> bits << bits;
        }

        boolean has(int v) {
            return atMost(v) == v;
        }

        int countPositivesUpTo(int size) {
            int bounded = Math.min(size, top());
            int bits = spacingBits(bounded);
            // Each finer spacing has half of its multiples to itself; the rest belong to a coarser one.
            int finer = bits - least - FRACTION_BITS;
            return (finer << (precision - 1)) + (bounded >> bits);
        }

        int countUpTo(int v) {
            int positives = countPositivesUpTo(top());
            if (v < 0) {
                return positives - countPositivesUpTo(-v - 1);
            }
            return positives + 1 + countPositivesUpTo(v);
        }

        boolean covers(Format other) {
            // The longest odd number of each exponent needs the most; all others fit where it fits.
            int longest = (1 << other.precision) - 1;
            for (int e = other.least; e <= other.greatest; e++) {
                if (!has(longest << (e + FRACTION_BITS))) {
                    return false;
                }
            }
            return true;
        }
    }

    /** An operation with its exact number, its neighbors and its outcome; a record is one. */
    private static final class Operation {
        int number;
        int code;
        int mode;
        int bits = 1;
        int draw;
        int lower;
        int upper;
        int outcome;
        int marks;
        /** The exact number is numerator / (divisor * 2^20). */
        long numerator;
        long divisor = 1;

        /** Three bits for each register, so that each part is a register whatever the code is. */
        static int codeOf(int kind, int t, int a, int b) {
            return kind << 9 | t << 6 | a << 3 | b;
        }

        static int kindOf(int code) {
            return code >> 9;
        }

        static int targetOf(int code) {
            return code >> 6 & (REGISTERS - 1);
        }

        static int firstOf(int code) {
            return code >> 3 & (REGISTERS - 1);
        }

        static int secondOf(int code) {
            return code & (REGISTERS - 1);
        }

        static int drawFor(int number, int seed, int bits) {
            int x = seed + number * 747796405;
            x = (x ^ (x >>> 16)) * 73244475;
            x = (x ^ (x >>> 16)) * 73244475;
            return (x ^ (x >>> 16)) & ((1 << bits) - 1);
        }

        void copyFrom(Operation o) {
            number = o.number;
            code = o.code;
            mode = o.mode;
            bits = o.bits;
            draw = o.draw;
            lower = o.lower;
            upper = o.upper;
            outcome = o.outcome;
            marks = o.marks;
            numerator = o.numerator;
            divisor = o.divisor;
        }

        int decimalCode() {
            return 1000 * kindOf(code) + 100 * targetOf(code) + 10 * firstOf(code) + secondOf(code);
        }

        boolean isQuotient() {
            return kindOf(code) == KIND_QUOTIENT;
        }

        void setFraction(long newNumerator, long newDivisor) {
            numerator = newNumerator;
            divisor = newDivisor;
        }

        long denominator() {
            return divisor << 2 * FRACTION_BITS;
        }

        /** A value with the denominator of the exact number. */
        long numeratorOf(long v) {
            return v * divisor << FRACTION_BITS;
        }

        /** Finds the neighbors of the exact number, and tells whether it is an overflow. */
        boolean findNeighbors(Format format) {
            int top = format.top();
            if (numerator > numeratorOf(top)) {
                lower = top;
                upper = top;
                return true;
            }
            if (numerator < numeratorOf(-top)) {
                lower = -top;
                upper = -top;
                return true;
            }
            long unit = numeratorOf(1);
            if (unit < 1) {
                return false;
            }
            // The values are integers, so the exact number may be rounded to one in the same direction.
            lower = format.atMost((int) Math.floorDiv(numerator, unit));
            upper = -format.atMost((int) Math.floorDiv(-numerator, unit));
            return false;
        }

        int rounded(int byMode, int byDraw) {
            return lower != upper && goesUp(byMode, byDraw) ? upper : lower;
        }

        private boolean goesUp(int byMode, int byDraw) {
            long gap = numeratorOf(upper - lower);
            long aboveLower = numerator - numeratorOf(lower);
            // 0 is a value of each format, so both neighbors are on the same side of it.
            boolean upperIsSmaller = upper <= 0;
            switch (byMode) {
                case MODE_DOWN:
                    return false;
                case MODE_UP:
                    return true;
                case MODE_TO_ZERO:
                    return upperIsSmaller;
                case MODE_NEAREST:
                    return 2 * aboveLower > gap || 2 * aboveLower == gap && upperIsSmaller;
                default:
                    return byDraw * gap < aboveLower << bits;
            }
        }

        private boolean dependsOnDraw() {
            return mode == MODE_STOCHASTIC && lower != upper;
        }

        /** How many of all draws lead to the upper neighbor. */
        private long drawsUp() {
            long unit = divisor << FRACTION_BITS;
            long gap = (upper - lower) * unit;
            long aboveLower = numerator - lower * unit;
            return gap < 1 ? 0 : Math.floorDiv((aboveLower << bits) + gap - 1, gap);
        }

        /** The mean of the results for all draws, in units of 2^-18. */
        long average() {
            if (!dependsOnDraw()) {
                return (long) outcome << GREATEST_BITS;
            }
            long sum = ((long) lower << bits) + drawsUp() * (upper - lower);
            return sum << (GREATEST_BITS - bits);
        }

        /** The bias with the denominator of the exact number. */
        long offset() {
            return (average() << 2) * divisor - numerator;
        }

        /** The variance of the results for all draws, in units of 2^-36. */
        long scatter() {
            if (!dependsOnDraw()) {
                return 0;
            }
            long ups = drawsUp();
            long downs = (1L << bits) - ups;
            long width = upper - lower;
            return ups * downs * width * width << 2 * (GREATEST_BITS - bits);
        }

        long addedTo(long hash) {
            long h = 31 * hash + number;
            h = 31 * h + decimalCode();
            h = 31 * h + outcome;
            h = 31 * h + lower;
            h = 31 * h + upper;
            h = 31 * h + draw;
            return 31 * h + marks;
        }
    }

    /** What an operation depends on: formats, registers, mode, draw bits, seed and the next number. */
    private static final class Setting {
        final Format[] formats = new Format[FORMATS];
        final int[] formatNumbers = new int[REGISTERS];
        final int[] values = new int[REGISTERS];
        int mode = MODE_STOCHASTIC;
        int bits = GREATEST_BITS;
        int seed = 1;
        int nextNumber;

        Setting() {
            for (int f = 0; f < FORMATS; f++) {
                formats[f] = new Format();
            }
        }

        void copyFrom(Setting o) {
            for (int f = 0; f < FORMATS; f++) {
                Format format = o.formats[f];
                formats[f].define(format.precision, format.least, format.greatest);
            }
            System.arraycopy(o.formatNumbers, 0, formatNumbers, 0, REGISTERS);
            System.arraycopy(o.values, 0, values, 0, REGISTERS);
            mode = o.mode;
            bits = o.bits;
            seed = o.seed;
            nextNumber = o.nextNumber;
        }

        Format formatAt(int r) {
            return formats[formatNumbers[r] & (FORMATS - 1)];
        }

        void emptyRegistersOf(int f) {
            for (int r = 0; r < REGISTERS; r++) {
                if (formatNumbers[r] == f) {
                    values[r] = 0;
                }
            }
        }

        boolean canCarryOut(int code) {
            return Operation.kindOf(code) != KIND_QUOTIENT || values[Operation.secondOf(code)] != 0;
        }

        /** Only for an operation that can be carried out. */
        void carryOut(int code, Operation out) {
            int t = Operation.targetOf(code);
            int old = values[t];
            out.number = nextNumber;
            out.code = code;
            out.mode = mode;
            out.bits = bits;
            out.draw = mode == MODE_STOCHASTIC ? Operation.drawFor(nextNumber, seed, bits) : 0;
            computeFraction(code, out);
            boolean isOverflow = out.findNeighbors(formatAt(t));
            out.outcome = out.rounded(mode, out.draw);
            boolean isAbsorbed = out.outcome == old && out.numerator != out.numeratorOf(old);
            out.marks = (isOverflow ? FLAG_OVERFLOW : 0) + (isAbsorbed ? FLAG_ABSORBED : 0);
            values[t] = out.outcome;
            nextNumber++;
        }

        private void computeFraction(int code, Operation out) {
            long a = values[Operation.firstOf(code)];
            long b = values[Operation.secondOf(code)];
            long t = values[Operation.targetOf(code)];
            switch (Operation.kindOf(code)) {
                case KIND_COPY:
                    out.setFraction(a << FRACTION_BITS, 1);
                    break;
                case KIND_SUM:
                    out.setFraction((a + b) << FRACTION_BITS, 1);
                    break;
                case KIND_DIFFERENCE:
                    out.setFraction((a - b) << FRACTION_BITS, 1);
                    break;
                case KIND_PRODUCT:
                    out.setFraction(a * b, 1);
                    break;
                case KIND_FUSED:
                    out.setFraction(a * b + (t << FRACTION_BITS), 1);
                    break;
                default:
                    out.setFraction((b < 0 ? -a : a) << 2 * FRACTION_BITS, Math.abs(b));
                    break;
            }
        }
    }

    /** The records, as a ring of the latest ones, and the account. */
    private static final class Ledger {
        private static final int RECORDS = 64;

        static final int SUM_OTHERS = 0;
        private static final int SUM_ERRORS = 1;
        private static final int SUM_BIASES = 2;
        private static final int SUM_VARIANCES = 3;
        private static final int SUM_OVERFLOWS = 4;
        private static final int SUM_ABSORBED = 5;
        private static final int SUM_QUOTIENTS = 6;

        final long[] sums = new long[SUMS];
        int size;
        private final Operation[] ring = new Operation[RECORDS];
        private int oldest;

        Ledger() {
            for (int i = 0; i < RECORDS; i++) {
                ring[i] = new Operation();
            }
        }

        void copyFrom(Ledger o) {
            for (int i = 0; i < o.size; i++) {
                ring[i].copyFrom(o.at(i));
            }
            oldest = 0;
            size = o.size;
            System.arraycopy(o.sums, 0, sums, 0, SUMS);
        }

        void clearSums() {
            for (int what = 0; what < SUMS; what++) {
                sums[what] = 0;
            }
        }

        boolean has(int i) {
            return i >= 0 && i < size;
        }

        Operation at(int i) {
            return ring[oldest + i & (RECORDS - 1)];
        }

        void enter(Operation o) {
            at(size).copyFrom(o);
            if (size < RECORDS) {
                size++;
            } else {
                oldest = oldest + 1 & (RECORDS - 1);
            }
            sums[SUM_OVERFLOWS] += (o.marks & FLAG_OVERFLOW) != 0 ? 1 : 0;
            sums[SUM_ABSORBED] += (o.marks & FLAG_ABSORBED) != 0 ? 1 : 0;
            if (o.isQuotient()) {
                sums[SUM_QUOTIENTS]++;
                return;
            }
            sums[SUM_OTHERS]++;
            sums[SUM_ERRORS] += o.numeratorOf(o.outcome) - o.numerator;
            sums[SUM_BIASES] += o.offset();
            sums[SUM_VARIANCES] += o.scatter();
        }
    }

    /** The remembered states, as a ring of rows that are used again. */
    private static final class History {
        private static final int STATES = 6;

        int size;
        private final Setting[] settings = new Setting[STATES];
        private final Ledger[] ledgers = new Ledger[STATES];
        private int oldest;

        History() {
            for (int i = 0; i < STATES; i++) {
                settings[i] = new Setting();
                ledgers[i] = new Ledger();
            }
        }

        void keep(Setting setting, Ledger ledger) {
            int place = (oldest + size) % STATES;
            settings[place].copyFrom(setting);
            ledgers[place].copyFrom(ledger);
            if (size < STATES) {
                size++;
            } else {
                oldest = (oldest + 1) % STATES;
            }
        }

        boolean restore(Setting setting, Ledger ledger) {
            if (size < 1) {
                return false;
            }
            size--;
            int place = (oldest + size) % STATES;
            setting.copyFrom(settings[place]);
            ledger.copyFrom(ledgers[place]);
            return true;
        }
    }

    /** The text buffer, and the steps that were read from it. */
    private static final class Program {
        private static final int BYTES = 80;
        private static final int DEPTH = 3;

        static final int STEP_OPERATION = 0;
        static final int STEP_OPEN = 1;
        static final int STEP_CLOSE = 2;

        private static final int WANT_STATEMENT = 0;
        private static final int WANT_EQUALS = 1;
        private static final int WANT_TERM = 2;
        private static final int WANT_SIGN = 3;
        private static final int WANT_SECOND = 4;
        private static final int WANT_SEMICOLON = 5;
        private static final int WANT_FUSED_FIRST = 6;
        private static final int WANT_FUSED_STAR = 7;
        private static final int WANT_COUNT = 8;
        private static final int WANT_COUNT_OR_OPEN = 9;
        private static final int WANT_OPEN = 10;

        int length;
        /** How many steps there are. Each takes at least one byte of the text, so all have room. */
        int size;
        final int[] steps = new int[BYTES];
        /** The code of an operation, or the count of a parenthesis that opens. */
        final int[] arguments = new int[BYTES];
        /** The other one of the two parentheses. */
        final int[] partners = new int[BYTES];
        private final int[] text = new int[BYTES];
        private final int[] open = new int[DEPTH];
        private int depth;
        private int wanted;
        private int count;
        private int kind;
        private int target;
        private int first;

        boolean append(int c) {
            if (length >= BYTES) {
                return false;
            }
            text[length] = c;
            length++;
            return true;
        }

        /** Reads the text into steps; answers the position of the fault, or NONE. */
        int read() {
            size = 0;
            depth = 0;
            wanted = WANT_STATEMENT;
            for (int i = 0; i < length; i++) {
                if (!take(text[i])) {
                    return i;
                }
            }
            return depth == 0 && wanted == WANT_STATEMENT ? NONE : length;
        }

        private boolean take(int c) {
            if (c == ' ') {
                return takeBlank();
            }
            switch (wanted) {
                case WANT_STATEMENT:
                    return takeStatement(c);
                case WANT_EQUALS:
                    return c == '=' && want(WANT_TERM);
                case WANT_TERM:
                    return takeTerm(c);
                case WANT_SIGN:
                    return takeSign(c);
                case WANT_SECOND:
                    return takeSecond(c);
                case WANT_SEMICOLON:
                    return c == ';' && want(WANT_STATEMENT);
                case WANT_FUSED_FIRST:
                    return takeFirst(c, WANT_FUSED_STAR);
                case WANT_FUSED_STAR:
                    return c == '*' && wantSecond(KIND_FUSED);
                case WANT_COUNT:
                    return takeCount(c);
                case WANT_COUNT_OR_OPEN:
                    return takeSecondOfCount(c) || takeOpen(c);
                default:
                    return takeOpen(c);
            }
        }

        private boolean want(int what) {
            wanted = what;
            return true;
        }

        private boolean wantSecond(int newKind) {
            kind = newKind;
            return want(WANT_SECOND);
        }

        private boolean takeBlank() {
            if (wanted == WANT_COUNT_OR_OPEN) {
                return want(WANT_OPEN);
            }
            return wanted != WANT_COUNT;
        }

        private boolean takeStatement(int c) {
            if (isRegisterDigit(c)) {
                target = c - '0';
                return want(WANT_EQUALS);
            }
            if (c == '#') {
                return want(WANT_COUNT);
            }
            return c == ')' && takeClose();
        }

        private boolean takeTerm(int c) {
            return c == '+' ? want(WANT_FUSED_FIRST) : takeFirst(c, WANT_SIGN);
        }

        private boolean takeFirst(int c, int afterIt) {
            if (!isRegisterDigit(c)) {
                return false;
            }
            first = c - '0';
            return want(afterIt);
        }

        private boolean takeSign(int c) {
            switch (c) {
                case ';':
                    return addOperation(KIND_COPY, first) && want(WANT_STATEMENT);
                case '+':
                    return wantSecond(KIND_SUM);
                case '-':
                    return wantSecond(KIND_DIFFERENCE);
                case '*':
                    return wantSecond(KIND_PRODUCT);
                case '/':
                    return wantSecond(KIND_QUOTIENT);
                default:
                    return false;
            }
        }

        private boolean takeSecond(int c) {
            return isRegisterDigit(c) && addOperation(kind, c - '0') && want(WANT_SEMICOLON);
        }

        private boolean takeCount(int c) {
            if (!isDigit(c)) {
                return false;
            }
            count = c - '0';
            return want(WANT_COUNT_OR_OPEN);
        }

        private boolean takeSecondOfCount(int c) {
            if (!isDigit(c)) {
                return false;
            }
            count = 10 * count + c - '0';
            return want(WANT_OPEN);
        }

        private boolean takeOpen(int c) {
            if (c != '(' || depth >= DEPTH || !addStep(STEP_OPEN, count)) {
                return false;
            }
            open[depth] = size - 1;
            depth++;
            return want(WANT_STATEMENT);
        }

        private boolean takeClose() {
            if (depth < 1 || !addStep(STEP_CLOSE, 0)) {
                return false;
            }
            depth--;
            int opening = open[depth];
            partners[opening] = size - 1;
            partners[size - 1] = opening;
            return want(WANT_STATEMENT);
        }

        private boolean addOperation(int newKind, int second) {
            return addStep(STEP_OPERATION, Operation.codeOf(newKind, target, first, second));
        }

        private boolean addStep(int step, int argument) {
            if (size >= BYTES) {
                return false;
            }
            steps[size] = step;
            arguments[size] = argument;
            size++;
            return true;
        }

        private static boolean isDigit(int c) {
            return c >= '0' && c <= '9';
        }

        private static boolean isRegisterDigit(int c) {
            return c >= '0' && c < '0' + REGISTERS;
        }
    }

    /** Carries out a program that was read without a fault. */
    private static final class Runner {
        private static final int OPERATIONS = 100;
        /** Far above what can be needed: the next operation is never more than some 200 steps away. */
        private static final int STEPS = 1000000;
        private static final int NO_CODE = -1;

        int done;
        int stop;
        private final int[] roundsLeft = new int[Program.DEPTH];
        /** The operations that had been done when the present round of a loop began. */
        private final int[] doneBefore = new int[Program.DEPTH];
        private int depth;
        private int position;

        /** Without a ledger nothing is recorded. */
        void carryOut(Program program, Setting setting, Operation work, Ledger ledger) {
            start();
            int code = nextCode(program);
            while (done < OPERATIONS && code != NO_CODE && setting.canCarryOut(code)) {
                setting.carryOut(code, work);
                if (ledger != null) {
                    ledger.enter(work);
                }
                done++;
                code = nextCode(program);
            }
            if (code != NO_CODE) {
                stop = done < OPERATIONS ? STOP_ZERO : STOP_LIMIT;
            }
        }

        private void start() {
            done = 0;
            stop = STOP_NONE;
            depth = 0;
            position = 0;
        }

        /** Goes on to the next operation and past it; NO_CODE at the end of the program. */
        private int nextCode(Program program) {
            for (int i = 0; i < STEPS && position < program.size; i++) {
                int here = position;
                position++;
                switch (program.steps[here]) {
                    case Program.STEP_OPERATION:
                        return program.arguments[here];
                    case Program.STEP_OPEN:
                        enterLoop(program.arguments[here], program.partners[here]);
                        break;
                    default:
                        endRound(program.partners[here]);
                        break;
                }
            }
            return NO_CODE;
        }

        private void enterLoop(int rounds, int closing) {
            if (rounds < 1 || depth >= Program.DEPTH) {
                position = closing + 1;
                return;
            }
            roundsLeft[depth] = rounds;
            doneBefore[depth] = done;
            depth++;
        }

        private void endRound(int opening) {
            int loop = depth - 1;
            if (loop < 0) {
                return;
            }
            roundsLeft[loop]--;
            // A round without an operation is followed by none but such rounds, up to 99^3 of them.
            if (roundsLeft[loop] > 0 && done > doneBefore[loop]) {
                doneBefore[loop] = done;
                position = opening + 1;
            } else {
                depth--;
            }
        }
    }
}
