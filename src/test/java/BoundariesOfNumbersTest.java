import java.io.IOException;
import java.math.BigInteger;
import java.util.ArrayList;
import java.util.List;
import java.util.TreeSet;

/**
 * The edges of formats, rounding, records and accounts: the values next to a bound, the smallest steps away from a tie,
 * full records, and numbers that wrap around. The smallest step of an exact number that is no quotient is 2^-20.
 */
public final class BoundariesOfNumbersTest {
    private static final int BAD = Checks.BAD, NONE = Checks.NONE;
    private static final int GREATEST = 1048575;
    /** The coarse format, p = 2, q = 0 and h = 2. */
    private static final int[] COARSE = {-12288, -8192, -6144, -4096, -3072, -2048, -1024, 0, 1024, 2048, 3072, 4096, 6144, 8192, 12288};

    private static Checks check;

    public static void main(String[] args) throws IOException {
        check = new Checks("BoundariesOfNumbersTest");
        valuesOfFormats();
        greatestValues();
        setValueAtTheEdges();
        overflows();
        overflowsOfQuotients();
        neighbors();
        exactResults();
        directedModes();
        nearestMode();
        stochasticMode();
        stochasticQuotients();
        drawsThatWrapAround();
        kinds();
        quotientsByZero();
        numbersOfOperations();
        fullRecords();
        whatARecordKeeps();
        absorbed();
        kindsAndRegisters();
        exactNumbers();
        replays();
        meansAtTheEdges();
        meansOfOthers();
        accounts();
        accountsThatWrapAround();
        clearedAccount();
        nextValues();
        counts();
        contained();
        containedOfAllFormats();
        toldNumbers();
        digestThatWrapsAround();
        check.finish();
    }

    // ---- values and formats

    private static StochasticBench withFormat(int p, int q, int h) {
        StochasticBench x = new StochasticBench();
        x.setFormat(0, p, q, h);
        return x;
    }

    private static void valuesOfFormats() {
        check.on("Its values are all numbers m * 2 to the power of e, where m is an integer with an absolute value below 2 to the power of p, and e an integer from q to h.");
        // With p = 3, q = -2 and h = 2: m up to 7, and steps of 256 to 4096.
        int[] inside = {0, 256, 7 * 256, 8 * 256, 10 * 256, 7 * 512, 8 * 512, 7 * 2048, 8 * 2048, 6 * 4096, 7 * 4096};
        int[] outside = {1, 255, 257, 128, 384, 9 * 256, 11 * 256, 9 * 512, 15 * 1024, 13 * 2048, 15 * 2048, 8 * 4096, GREATEST};
        StochasticBench x = withFormat(3, -2, 2);
        for (int v : inside) {
            check.due("isValue " + v, x.isValue(0, v), 1);
            check.due("isValue " + -v, x.isValue(0, -v), 1);
        }
        for (int v : outside) {
            check.due("isValue " + v, x.isValue(0, v), 0);
            check.due("isValue " + -v, x.isValue(0, -v), 0);
        }
        x = withFormat(1, -10, 9);
        for (int e = 0; e < 20; e++) {
            check.due("a power of two", x.isValue(0, 1 << e), 1);
            check.due("three times a power of two", x.isValue(0, Math.min(3 << e, GREATEST)), 0);
        }
        x = withFormat(10, -10, 0);
        int[] long10 = {1, 1023, 1024, 1026, 2046, 2048, 2052, 1023 << 10};
        int[] tooLong = {1025, 1027, 2047, 2049, 2050, (1023 << 10) + 1, (1023 << 10) - 1, (1023 << 10) - 512, GREATEST};
        for (int v : long10) {
            check.due("ten bits, " + v, x.isValue(0, v), 1);
            check.due("ten bits, " + -v, x.isValue(0, -v), 1);
        }
        for (int v : tooLong) {
            check.due("more than ten bits, " + v, x.isValue(0, v), 0);
            check.due("more than ten bits, " + -v, x.isValue(0, -v), 0);
        }
        check.due("one exponent alone, 2^10 - 1 steps", withFormat(10, 0, 0).isValue(0, 1023 << 10), 1);
        check.due("one exponent alone, half a step", withFormat(10, 0, 0).isValue(0, 512), 0);
    }

    private static void greatestValues() {
        check.on("Its greatest value is (2 to the power of p, minus 1) * 2 to the power of h.");
        for (int p = 1; p <= 10; p++) {
            for (int h = 0; h <= 9 && p + h <= 10; h++) {
                for (int q = -10; q <= 0; q += 5) {
                    int top = ((1 << p) - 1) * (1 << h) * 1024;
                    String shape = "p " + p + ", q " + q + ", h " + h + ": ";
                    StochasticBench x = withFormat(p, q, h);
                    check.due(shape + "it is a value", x.isValue(0, top), 1);
                    check.due(shape + "so is its negative", x.isValue(0, -top), 1);
                    check.due(shape + "next to it from below", x.next(0, top - 1, false), top);
                    check.due(shape + "nothing above", x.next(0, top, false), NONE);
                    check.due(shape + "next to the least from above", x.next(0, 1 - top, true), -top);
                    check.due(shape + "nothing below", x.next(0, -top, true), NONE);
                    check.due(shape + "the greatest number", x.setValue(0, GREATEST), top);
                    check.due(shape + "the least number", x.setValue(0, -GREATEST), -top);
                }
            }
        }
    }

    private static void setValueAtTheEdges() {
        check.on("Sets the value of a register to a value rounded to its format by the mode 3.");
        StochasticBench x = coarse(1);
        for (int i = 0; i + 1 < COARSE.length; i++) {
            int low = COARSE[i];
            int high = COARSE[i + 1];
            int middle = (low + high) / 2;
            x = coarse(1);
            check.due("the value itself", x.setValue(0, low), low);
            check.due("one above it", x.setValue(0, low + 1), low);
            check.due("one below the middle", x.setValue(0, middle - 1), low);
            check.due("the middle", x.setValue(0, middle), Math.abs(low) < Math.abs(high) ? low : high);
            check.due("one above the middle", x.setValue(0, middle + 1), high);
            check.due("one below the next", x.setValue(0, high - 1), high);
            check.due("the next", x.setValue(0, high), high);
        }
        check.due("one above the greatest", x.setValue(0, 12289), 12288);
        check.due("one below the least", x.setValue(0, -12289), -12288);
        check.on("This is a change, but no operation.");
        check.due("no number", x.told(3), 0);
        check.due("no record", x.records(), 0);
        check.due("no overflow in the account", x.account(4), 0);
    }

    // ---- rounding

    /** The registers 0 to 3 are coarse, 4 to 7 have ten bits and steps from 1/1024 on. */
    private static StochasticBench coarse(int mode) {
        StochasticBench x = withFormat(2, 0, 2);
        x.setFormat(1, 10, -10, 0);
        for (int r = 4; r < 8; r++) {
            x.setRegister(r, 1);
        }
        x.setMode(mode);
        return x;
    }

    /** An operation that writes the register 0: start + steps * 2^-20, where steps is a product of two fine values. */
    private static StochasticBench near(int mode, int start, int a, int b) {
        StochasticBench x = coarse(mode);
        x.setValue(0, start);
        x.setValue(4, a);
        x.setValue(5, b);
        x.operate(4, 0, 4, 5);
        return x;
    }

    private static StochasticBench quotient(int mode, int a, int b) {
        StochasticBench x = coarse(mode);
        x.setValue(4, a);
        x.setValue(5, b);
        x.operate(5, 0, 4, 5);
        return x;
    }

    private static void roundedTo(String what, StochasticBench x, int result, int lower, int upper, int flags) {
        check.due(what + ": result", x.result(0), result);
        check.due(what + ": value", x.value(0), result);
        check.due(what + ": lower", x.neighbor(0, false), lower);
        check.due(what + ": upper", x.neighbor(0, true), upper);
        check.due(what + ": flags", x.flags(0), flags);
    }

    private static void overflows() {
        check.on("If x is above the greatest value of the format, or below the negative of it, the result is the greatest value or the negative of it; this is an overflow.");
        for (int mode = 0; mode <= 4; mode++) {
            roundedTo("the greatest value, mode " + mode, near(mode, 12288, 1, 0), 12288, 12288, 12288, 0);
            roundedTo("one step above, mode " + mode, near(mode, 12288, 1, 1), 12288, 12288, 12288, 3);
            roundedTo("the least value, mode " + mode, near(mode, -12288, 1, 0), -12288, -12288, -12288, 0);
            roundedTo("one step below it, mode " + mode, near(mode, -12288, 1, -1), -12288, -12288, -12288, 3);
            roundedTo("far above, mode " + mode, near(mode, 0, 1023 << 10, 1023 << 10), 12288, 12288, 12288, 1);
            roundedTo("far below, mode " + mode, near(mode, 0, 1023 << 10, -(1023 << 10)), -12288, -12288, -12288, 1);
        }
        roundedTo("one step below the greatest, down", near(0, 12288, 1, -1), 8192, 8192, 12288, 0);
        roundedTo("one step below the greatest, up", near(1, 12288, 1, -1), 12288, 8192, 12288, 2);
        roundedTo("one step above the least, down", near(0, -12288, 1, 1), -12288, -12288, -8192, 2);
        roundedTo("one step above the least, up", near(1, -12288, 1, 1), -8192, -12288, -8192, 0);
    }

    private static void overflowsOfQuotients() {
        check.on("If x is above the greatest value of the format, or below the negative of it, the result is the greatest value or the negative of it; this is an overflow.");
        for (int mode = 0; mode <= 4; mode++) {
            // 12 * 85 is 1020.
            roundedTo("12, mode " + mode, quotient(mode, 1020, 85), 12288, 12288, 12288, 0);
            roundedTo("12 and 1/85, mode " + mode, quotient(mode, 1021, 85), 12288, 12288, 12288, 1);
            roundedTo("-12, mode " + mode, quotient(mode, 1020, -85), -12288, -12288, -12288, 0);
            roundedTo("-12 and 1/85, mode " + mode, quotient(mode, -1021, 85), -12288, -12288, -12288, 1);
            roundedTo("the greatest quotient, mode " + mode, quotient(mode, 1023 << 10, 1), 12288, 12288, 12288, 1);
            roundedTo("the least quotient, mode " + mode, quotient(mode, 1023 << 10, -1), -12288, -12288, -12288, 1);
        }
        roundedTo("12 without 1/85, down", quotient(0, 1019, 85), 8192, 8192, 12288, 0);
        roundedTo("12 without 1/85, nearest", quotient(3, 1019, 85), 12288, 8192, 12288, 0);
        roundedTo("-12 and back 1/85, up", quotient(1, -1019, 85), -8192, -12288, -8192, 0);
    }

    private static void neighbors() {
        check.on("Otherwise the lower neighbor is the greatest value of the format that is at most x, and the upper neighbor is the smallest value of it that is at least x.");
        for (int i = 1; i + 1 < COARSE.length; i++) {
            int v = COARSE[i];
            StochasticBench x = near(2, v, 1, 1);
            check.due("one step above " + v + ", lower", x.neighbor(0, false), v);
            check.due("one step above " + v + ", upper", x.neighbor(0, true), COARSE[i + 1]);
            x = near(2, v, 1, -1);
            check.due("one step below " + v + ", lower", x.neighbor(0, false), COARSE[i - 1]);
            check.due("one step below " + v + ", upper", x.neighbor(0, true), v);
            x = near(2, v, 0, 0);
            check.due("at " + v + ", lower", x.neighbor(0, false), v);
            check.due("at " + v + ", upper", x.neighbor(0, true), v);
        }
        StochasticBench x = quotient(2, 1, 1023 << 10);
        check.due("the smallest quotient, lower", x.neighbor(0, false), 0);
        check.due("the smallest quotient, upper", x.neighbor(0, true), 1024);
        x = quotient(2, -1, 1023 << 10);
        check.due("its negative, lower", x.neighbor(0, false), -1024);
        check.due("its negative, upper", x.neighbor(0, true), 0);
        x = quotient(2, 1022, 1023);
        check.due("a bit less than 1, lower", x.neighbor(0, false), 0);
        check.due("a bit less than 1, upper", x.neighbor(0, true), 1024);
        x = quotient(2, 1024, 1023);
        check.due("a bit more than 1, lower", x.neighbor(0, false), 1024);
        check.due("a bit more than 1, upper", x.neighbor(0, true), 2048);
    }

    private static void exactResults() {
        check.on("If both are equal, the result is this value.");
        for (int mode = 0; mode <= 4; mode++) {
            for (int v : COARSE) {
                StochasticBench x = coarse(mode);
                x.setValue(1, v);
                check.due("copy of " + v + " by the mode " + mode, x.operate(0, 0, 1, 1), v);
                for (int seed = 0; seed < 8; seed++) {
                    check.due("its replay", x.replay(0, 4, seed), v);
                }
            }
        }
    }

    /** The results by the modes 0, 1 and 2. */
    private static void directed(String what, int start, int a, int b, int down, int up, int toZero) {
        check.due(what + " down", near(0, start, a, b).result(0), down);
        check.due(what + " up", near(1, start, a, b).result(0), up);
        check.due(what + " to zero", near(2, start, a, b).result(0), toZero);
    }

    private static void directedModes() {
        check.on("0 down: the lower neighbor; 1 up: the upper neighbor; 2 to zero: the neighbor with the smaller absolute value;");
        directed("just above 0", 0, 1, 1, 0, 1024, 0);
        directed("just below 0", 0, 1, -1, -1024, 0, 0);
        directed("just above 4", 4096, 1, 1, 4096, 6144, 4096);
        directed("just below 4", 4096, 1, -1, 3072, 4096, 3072);
        directed("just above -4", -4096, 1, 1, -4096, -3072, -3072);
        directed("just below -4", -4096, 1, -1, -6144, -4096, -4096);
        directed("just below 1", 1024, 1, -1, 0, 1024, 0);
        directed("just above -1", -1024, 1, 1, -1024, 0, 0);
        check.due("1/3 down", quotient(0, 1, 3).result(0), 0);
        check.due("1/3 up", quotient(1, 1, 3).result(0), 1024);
        check.due("-1/3 down", quotient(0, -1, 3).result(0), -1024);
        check.due("-1/3 up", quotient(1, 1, -3).result(0), 0);
        check.due("-1/3 to zero", quotient(2, 1, -3).result(0), 0);
    }

    private static void nearestMode() {
        check.on("3 nearest: the neighbor that is nearer to x; if both are as near, the one with the smaller absolute value;");
        // 511 * 1026 is 2 less than 2^19, and 545 * 962 is 2 more.
        check.due("1/2", near(3, 0, 512, 1024).result(0), 0);
        check.due("a bit less than 1/2", near(3, 0, 511, 1026).result(0), 0);
        check.due("a bit more than 1/2", near(3, 0, 545, 962).result(0), 1024);
        check.due("-1/2", near(3, 0, 512, -1024).result(0), 0);
        check.due("a bit less than -1/2", near(3, 0, 545, -962).result(0), -1024);
        check.due("a bit more than -1/2", near(3, 0, 511, -1026).result(0), 0);
        check.due("7/2", near(3, 3072, 512, 1024).result(0), 3072);
        check.due("a bit less than 7/2", near(3, 3072, 511, 1026).result(0), 3072);
        check.due("a bit more than 7/2", near(3, 3072, 545, 962).result(0), 4096);
        check.due("-7/2", near(3, -4096, 512, 1024).result(0), -3072);
        check.due("a bit less than -7/2", near(3, -4096, 511, 1026).result(0), -4096);
        check.due("a bit more than -7/2", near(3, -4096, 545, 962).result(0), -3072);
        check.due("10", near(3, 8192, 2048, 1024).result(0), 8192);
        check.due("10 and 1/512", near(3, 8192, 2052, 1024).result(0), 12288);
        check.due("-10", near(3, -8192, 2048, -1024).result(0), -8192);
        check.due("-10 and 1/512", near(3, -8192, 2052, -1024).result(0), -12288);
        check.due("511/1023", quotient(3, 511, 1023).result(0), 0);
        check.due("512/1023", quotient(3, 512, 1023).result(0), 1024);
        check.due("512/1024", quotient(3, 512, 1024).result(0), 0);
        check.due("-511/1023", quotient(3, -511, 1023).result(0), 0);
        check.due("-512/1023", quotient(3, 512, -1023).result(0), -1024);
        check.due("-512/1024", quotient(3, -512, 1024).result(0), 0);
    }

    /** The draw by the document's words, with whole numbers cut to 32 bits instead of int arithmetic. */
    private static int draw(int number, int seed, int bits) {
        BigInteger factor = BigInteger.valueOf(73244475);
        BigInteger x = cut(BigInteger.valueOf(number).multiply(BigInteger.valueOf(747796405)).add(BigInteger.valueOf(seed)));
        x = cut(x.xor(x.shiftRight(16)).multiply(factor));
        x = cut(x.xor(x.shiftRight(16)).multiply(factor));
        return x.xor(x.shiftRight(16)).mod(BigInteger.ONE.shiftLeft(bits)).intValueExact();
    }

    private static BigInteger cut(BigInteger x) {
        return x.mod(BigInteger.ONE.shiftLeft(32));
    }

    private static int stochastic(int bits, int seed, int v) {
        StochasticBench x = coarse(4);
        x.setBits(bits);
        x.setSeed(seed);
        x.setValue(4, v);
        return x.operate(0, 0, 4, 4);
    }

    private static void stochasticMode() {
        check.on("4 stochastic: the upper neighbor if t * (upper - lower) is less than (x - lower) * T, and otherwise the lower neighbor, where t is the draw of the operation, and T is 2 to the power of the draw bits.");
        for (int bits = 1; bits <= 8; bits++) {
            int unit = 1024 >> bits;
            for (int seed = -20; seed <= 20; seed++) {
                int t = draw(0, seed, bits);
                String what = bits + " bits, the draw " + t + ": ";
                check.due(what + "as much as the draw", stochastic(bits, seed, t * unit), 0);
                check.due(what + "a bit more", stochastic(bits, seed, t * unit + 1), 1024);
                check.due(what + "one more", stochastic(bits, seed, (t + 1) * unit), 1024);
                check.due(what + "one less", stochastic(bits, seed, Math.max(0, t - 1) * unit), 0);
                check.due(what + "as much as the draw, from -1 on", stochastic(bits, seed, t * unit - 1024), -1024);
                check.due(what + "a bit more, from -1 on", stochastic(bits, seed, t * unit - 1023), 0);
            }
        }
        for (int seed = 0; seed < 300; seed++) {
            int t = draw(0, seed, 8);
            check.due("one step above 0 with the draw " + t, stochasticNear(seed, 0, 1), t == 0 ? 1024 : 0);
            check.due("one step below 1 with the draw " + t, stochasticNear(seed, 1024, -1), 1024);
            // 1/16 is 1/64 of the way from 8 to 12.
            check.due("1/64 of a gap of 4 with the draw " + t, stochasticNear(seed, 8192, 256), t < 4 ? 12288 : 8192);
        }
    }

    private static int stochasticNear(int seed, int start, int a) {
        StochasticBench x = coarse(4);
        x.setSeed(seed);
        x.setValue(0, start);
        x.setValue(4, a);
        x.setValue(5, Math.abs(a) == 1 ? 1 : 256);
        return x.operate(4, 0, 4, 5);
    }

    private static void stochasticQuotients() {
        check.on("4 stochastic: the upper neighbor if t * (upper - lower) is less than (x - lower) * T, and otherwise the lower neighbor, where t is the draw of the operation, and T is 2 to the power of the draw bits.");
        int[][] pairs = {{1, 3}, {2, 3}, {1, 1023}, {1022, 1023}, {512, 1023}, {511, 1023}, {1, 256}, {255, 256}, {1, 255}};
        for (int[] pair : pairs) {
            for (int seed = 0; seed < 64; seed++) {
                StochasticBench x = coarse(4);
                x.setSeed(seed);
                x.setValue(4, pair[0]);
                x.setValue(5, pair[1]);
                boolean up = draw(0, seed, 8) * pair[1] < pair[0] * 256;
                check.due(pair[0] + "/" + pair[1], x.operate(5, 0, 4, 5), up ? 1024 : 0);
                // Below 0 the lower neighbor is -1, and x is 1 - a/b above it.
                x.setValue(4, -pair[0]);
                up = draw(1, seed, 8) * pair[1] < (pair[1] - pair[0]) * 256;
                check.due(-pair[0] + "/" + pair[1], x.operate(5, 0, 4, 5), up ? 0 : -1024);
            }
        }
    }

    private static void drawsThatWrapAround() {
        check.on("The draw of the operation with the number n, for a seed, is computed in int arithmetic that wraps around:");
        int[] seeds = {0, 1, -1, Integer.MAX_VALUE, Integer.MIN_VALUE, Integer.MAX_VALUE - 747796405, 12345, -987654321};
        for (int bits : new int[] {1, 7, 8}) {
            for (int seed : seeds) {
                StochasticBench x = new StochasticBench();
                x.setBits(bits);
                x.setSeed(seed);
                Checks.type(x, "#50(1=1;2=2;)");
                for (int i = 0; i < 5; i++) {
                    x.run();
                    for (int at = 0; at < 64; at += 7) {
                        check.due("draw of " + x.numberOf(at), x.drawOf(at), draw(x.numberOf(at), seed, bits));
                    }
                }
            }
        }
        StochasticBench x = Checks.withText("#50(1=1;2=2;)");
        for (int i = 0; i < 400; i++) {
            x.run();
        }
        check.due("a late number", x.numberOf(63), 39999);
        check.due("its draw", x.drawOf(63), draw(39999, 1, 8));
        check.due("the number after it", x.told(3), 40000);
    }

    // ---- operations and records

    private static void kinds() {
        check.on("The kinds are: 0 copy: a; 1 sum: a + b; 2 difference: a - b; 3 product: a * b; 4 fused: a * b + t, where t is the value of the register that is written; 5 quotient: a / b.");
        // t, a and b are 5, 3 and 2, or the same register, with the value 3.
        int[] apart = {3072, 5120, 1024, 6144, 11264, 1536};
        int[] same = {3072, 6144, 0, 9216, 12288, 1024};
        for (int kind = 0; kind <= 5; kind++) {
            StochasticBench x = new StochasticBench();
            x.setValue(1, 5120);
            x.setValue(2, 3072);
            x.setValue(3, 2048);
            check.due("the kind " + kind, x.operate(kind, 1, 2, 3), apart[kind]);
            check.due("what it reads stays, the kind " + kind, x.value(2) + x.value(3), 5120);
            check.due("one register for all, the kind " + kind, x.operate(kind, 2, 2, 2), same[kind]);
            x.setValue(1, 5120);
            x.setValue(2, 3072);
            check.due("t is a, the kind " + kind, x.operate(kind, 2, 2, 3), kind == 4 ? 9216 : apart[kind]);
            x.setValue(2, 3072);
            check.due("t is b, the kind " + kind, x.operate(kind, 3, 2, 3), kind == 4 ? 8192 : apart[kind]);
        }
        check.on("An operation writes a register t: it computes an exact number from the values of registers, and the result, rounded to the format of t, becomes the value of t.");
        StochasticBench x = coarse(0);
        x.setValue(4, 5123);
        check.due("from a fine one to a coarse one", x.operate(0, 0, 4, 4), 4096);
        check.due("by the format of t alone", x.operate(1, 6, 0, 4), 9216);
        check.due("it is the value of t", x.value(6), 9216);
        x.setRegister(1, 1);
        check.due("a fine one among the coarse ones", x.operate(0, 1, 4, 4), 5120);
    }

    private static void quotientsByZero() {
        check.on("(A quotient cannot be computed if b is 0.)");
        StochasticBench x = coarse(3);
        x.setValue(4, 1);
        check.due("by 0", x.operate(5, 0, 4, 5), Checks.STATE);
        x.setValue(5, 1);
        check.due("by the smallest value", x.operate(5, 0, 4, 5), 1024);
        x.setValue(5, -1);
        check.due("by the smallest negative value", x.operate(5, 0, 4, 5), -1024);
        check.due("0 by something", x.operate(5, 0, 6, 5), 0);
        check.due("by what is written", x.operate(5, 5, 4, 5), -1024);
        check.due("something by itself", x.operate(5, 5, 5, 5), 1024);
        for (int kind = 0; kind < 5; kind++) {
            check.must("the kind " + kind + " with a b of 0", x.operate(kind, 0, 4, 6) != Checks.STATE);
        }
        x.setValue(4, 1);
        x.setValue(5, 1023 << 10);
        x.setMode(2);
        check.due("a quotient that becomes 0", x.operate(5, 6, 4, 5), 0);
        check.due("is 0 as a divisor", x.operate(5, 0, 4, 6), Checks.STATE);
    }

    private static void numbersOfOperations() {
        check.on("Operations are numbered from 0 in the order in which they are carried out.");
        StochasticBench x = Checks.withText("1=1;2=2;1=1/0;");
        x.operate(0, 3, 3, 3);
        check.due("the first", x.numberOf(0), 0);
        check.due("a refused one", x.operate(5, 1, 1, 1), Checks.STATE);
        check.due("has no number", x.told(3), 1);
        x.setValue(1, 1024);
        check.due("setValue has none", x.told(3), 1);
        x.ifRun(1, 0, 0);
        check.due("ifRun has none", x.told(3), 1);
        x.run();
        check.due("a run has one for each, but the one that it stops before", x.told(3), 3);
        check.due("the second of the run", x.numberOf(2), 2);
        x.undo();
        check.due("undo takes them back", x.told(3), 1);
        x.operate(0, 4, 4, 4);
        check.due("and they are given again", x.numberOf(1), 1);
    }

    private static void fullRecords() {
        check.on("They are recorded; if there are more than 64 records, the oldest one is forgotten.");
        for (int count : new int[] {0, 1, 63, 64, 65, 66, 127, 128, 129, 200}) {
            StochasticBench x = new StochasticBench();
            for (int i = 0; i < count; i++) {
                x.operate(0, i % 8, i / 8 % 8, i / 64);
            }
            int kept = Math.min(count, 64);
            check.due("records after " + count, x.records(), kept);
            for (int i = 0; i < kept; i++) {
                int n = count - kept + i;
                check.due("number " + i + " after " + count, x.numberOf(i), n);
                check.due("operation " + i + " after " + count, x.operation(i), n % 8 * 100 + n / 8 % 8 * 10 + n / 64);
            }
        }
        check.on("the index of the record, from 0 for the oldest one");
        StochasticBench x = Checks.withText("#99(1=1;)");
        x.operate(0, 2, 2, 2);
        x.operate(0, 3, 3, 3);
        check.due("the oldest one of two", x.operation(0), 222);
        check.due("the latest one of two", x.operation(1), 333);
        x.undo();
        x.undo();
        check.on("Returns the number, 0 to 64.");
        check.due("none", x.records(), 0);
        x.run();
        check.due("all", x.records(), 64);
        x.run();
        check.due("still all", x.records(), 64);
        check.due("the oldest", x.numberOf(0), 198 - 64);
        x.undo();
        check.due("the oldest before", x.numberOf(0), 99 - 64);
        check.due("still all before", x.records(), 64);
        x.undo();
        check.due("none again", x.records(), 0);
    }

    private static void whatARecordKeeps() {
        check.on("A record has the number, the kind, the register that was written, its format (as it was then), the exact number, the neighbors (in the case of an overflow, both are the result), the mode, the draw bits and the draw (0 if the mode was not 4), and the result.");
        StochasticBench x = near(4, 4096, 1024, 1024);
        int draw = draw(0, 1, 8);
        check.due("the draw by the mode 4", x.drawOf(0), draw);
        int result = x.result(0);
        x.setFormat(0, 1, 0, 0);
        x.setRegister(0, 1);
        x.setMode(0);
        x.setBits(1);
        x.setSeed(7);
        check.due("the lower neighbor by the format then", x.neighbor(0, false), 4096);
        check.due("the upper neighbor by the format then", x.neighbor(0, true), 6144);
        check.due("the result", x.result(0), result);
        check.due("the draw", x.drawOf(0), draw);
        check.due("the mean by the mode then", x.mean(0), 5 << 18);
        check.due("the replay by the bits then", x.replay(0, 4, 1), result);
        check.due("the replay by the format then", x.replay(0, 1, 1), 6144);
        for (int mode = 0; mode <= 3; mode++) {
            check.due("no draw by the mode " + mode, near(mode, 4096, 1024, 1024).drawOf(0), 0);
        }
        for (int seed = 1; seed < 9; seed++) {
            x = coarse(4);
            x.setSeed(seed);
            x.setValue(1, 12288);
            x.operate(3, 0, 1, 1);
            x.operate(0, 0, 1, 1);
            check.due("a draw for an overflow", x.drawOf(0), draw(0, seed, 8));
            check.due("a draw for an exact result", x.drawOf(1), draw(1, seed, 8));
        }
    }

    private static void absorbed() {
        check.on("An operation is absorbed if its exact number is not the value that t had before, but the result is.");
        check.due("the same number", near(0, 4096, 0, 0).flags(0), 0);
        check.due("one step more, down", near(0, 4096, 1, 1).flags(0), 2);
        check.due("one step more, up", near(1, 4096, 1, 1).flags(0), 0);
        check.due("one step less, up", near(1, 4096, 1, -1).flags(0), 2);
        check.due("one step less, down", near(0, 4096, 1, -1).flags(0), 0);
        check.due("one step more than 0", near(0, 0, 1, 1).flags(0), 2);
        check.due("0 and 0", near(0, 0, 0, 1).flags(0), 0);
        StochasticBench x = coarse(0);
        x.setValue(0, 1024);
        x.setValue(4, 1024);
        x.setValue(5, 1023);
        x.operate(5, 0, 4, 5);
        check.due("a quotient a bit above what was there", x.flags(0), 2);
        x.operate(5, 0, 4, 4);
        check.due("a quotient that is what was there", x.flags(1), 0);
        x.setValue(0, 12288);
        x.operate(1, 0, 0, 4);
        check.due("an overflow to what was there", x.flags(2), 3);
        x.operate(0, 1, 0, 0);
        check.due("the value of another register", x.flags(3), 0);
        check.due("in the account", x.account(5), 2);
    }

    private static void kindsAndRegisters() {
        check.on("For the kind 0, b is as it was given to operate(), and equal to a in a program; for the kind 4 as well as for others, a and b are the two registers of the product, sum and so on.");
        StochasticBench x = new StochasticBench();
        x.operate(0, 0, 0, 0);
        check.due("all of them 0", x.operation(0), 0);
        x.operate(0, 7, 7, 0);
        check.due("b as given, 0", x.operation(1), 770);
        x.operate(0, 7, 0, 7);
        check.due("b as given, 7", x.operation(2), 707);
        x.operate(4, 7, 6, 5);
        check.due("fused", x.operation(3), 4765);
        x.setValue(7, 1024);
        x.operate(5, 7, 7, 7);
        check.due("all of them the greatest", x.operation(4), 5777);
        Checks.type(x, "0=7;7=0;3=+4*5;1=0/7;");
        x.setValue(7, 1024);
        x.run();
        check.due("a copy of a program", x.operation(5), 77);
        check.due("the other way", x.operation(6), 700);
        check.due("fused in a program", x.operation(7), 4345);
        check.due("quotient in a program", x.operation(8), 5107);
    }

    private static void exact(String what, StochasticBench x, long numerator, long denominator) {
        int last = x.records() - 1;
        check.due(what + ", numerator", x.exactNumerator(last), numerator);
        check.due(what + ", denominator", x.exactDenominator(last), denominator);
    }

    private static void exactNumbers() {
        check.on("Returns the numerator of the exact number of a record, as a fraction in lowest terms with a positive denominator (0 is 0 / 1).");
        exact("0", near(0, 0, 0, 1), 0, 1);
        exact("0 as a difference", near(0, 4096, 4096, -1024), 0, 1);
        exact("0 as a quotient", quotient(0, 0, -1023), 0, 1);
        exact("one step", near(0, 0, 1, 1), 1, 1 << 20);
        exact("one step below 0", near(0, 0, 1, -1), -1, 1 << 20);
        exact("one step below 12", near(0, 12288, 1, -1), (12 << 20) - 1, 1 << 20);
        exact("the greatest one of all", near(0, 12288, 1023 << 10, 1023 << 10), 1023 * 1023 + 12, 1);
        exact("the least one of all", near(0, -12288, 1023 << 10, -(1023 << 10)), -1023 * 1023 - 12, 1);
        exact("the greatest quotient", quotient(0, 1023 << 10, 1), 1023 << 10, 1);
        exact("the smallest quotient", quotient(0, 1, 1023 << 10), 1, 1023 << 10);
        exact("the smallest quotient below 0", quotient(0, 1, -(1023 << 10)), -1, 1023 << 10);
        exact("two signs", quotient(0, -1, -3), 1, 3);
        exact("a sign below", quotient(0, 1, -3), -1, 3);
        exact("lowest terms", quotient(0, 6, -4), -3, 2);
        exact("lowest terms of a whole number", quotient(0, 6, 3), 2, 1);
        exact("one", quotient(0, 1023, 1023), 1, 1);
        exact("terms that have 2 in common", near(0, 0, 1, 2), 1, 1 << 19);
        exact("terms that have 3 in common", quotient(0, 3, 21), 1, 7);
        exact("terms that have nothing in common", quotient(0, 1023, 1022 << 10), 1023, 1022 << 10);
    }

    private static void replays() {
        check.on("Replays the operation of a record with another mode and seed (its exact number, format, number and draw bits stay).");
        for (int bits = 1; bits <= 8; bits++) {
            // 6 and 1/2 lie a quarter of the way from 6 to 8.
            StochasticBench x = coarse(0);
            x.setBits(bits);
            x.setValue(1, 6144);
            x.setValue(4, 512);
            x.operate(0, 2, 1, 1);
            x.operate(1, 0, 1, 4);
            x.setBits(9 - bits);
            x.setValue(1, 0);
            int scale = 1 << bits;
            for (int seed : new int[] {0, 1, 2, 3, 4, 5, Integer.MAX_VALUE, Integer.MIN_VALUE, -1}) {
                boolean up = 4 * draw(1, seed, bits) < scale;
                check.due(bits + " bits, seed " + seed, x.replay(1, 4, seed), up ? 8192 : 6144);
            }
            check.due("down", x.replay(1, 0, 5), 6144);
            check.due("up", x.replay(1, 1, 5), 8192);
            check.due("to zero", x.replay(1, 2, 5), 6144);
            check.due("nearest", x.replay(1, 3, 5), 6144);
        }
        StochasticBench many = coarse(4);
        many.setValue(4, 512);
        Checks.type(many, "#70(0=4;)");
        many.run();
        for (int i = 0; i < 64; i++) {
            int number = 6 + i;
            check.due("the number, where it is not the index", many.replay(i, 4, 9), draw(number, 9, 8) < 128 ? 1024 : 0);
            check.due("as it was", many.replay(i, 4, 1), many.result(i));
        }
        for (int mode = 0; mode <= 4; mode++) {
            check.due("an overflow", near(0, 12288, 1, 1).replay(0, mode, 5), 12288);
            check.due("an overflow below", near(4, -12288, 1, -1).replay(0, mode, 5), -12288);
        }
    }

    // ---- accounts

    private static StochasticBench stochasticRecord(int bits, int start, int a, int b) {
        StochasticBench x = coarse(4);
        x.setBits(bits);
        x.setValue(0, start);
        x.setValue(4, a);
        x.setValue(5, b);
        x.operate(4, 0, 4, 5);
        return x;
    }

    /** Of all draws, so many go up from one value to the one that lies gap above it; steps is x in units of 2^-20. */
    private static void meanIs(String what, StochasticBench x, int bits, int lower, int gap, long ups, long steps) {
        long all = 1L << bits;
        long mean = (lower * all + ups * gap) * (256 / all);
        check.due(what + ", mean", x.mean(0), mean);
        BigInteger bias = BigInteger.valueOf(4 * mean - steps);
        BigInteger divisor = bias.gcd(BigInteger.ONE.shiftLeft(20));
        check.due(what + ", bias", x.biasNumerator(0), bias.divide(divisor).longValueExact());
        check.due(what + ", its denominator", x.biasDenominator(0), (1 << 20) / divisor.longValueExact());
        long scale = 256 / all;
        check.due(what + ", variance", x.variance(0), ups * (all - ups) * gap * gap * scale * scale);
        check.due(what + ", bias in the account", x.account(2), 4 * mean - steps);
        check.due(what + ", variance in the account", x.account(3), x.variance(0));
        check.due(what + ", error in the account", x.account(1), 1024L * x.result(0) - steps);
    }

    private static void meansAtTheEdges() {
        check.on("For an operation with the mode 4 that is no overflow, the mean is the mean of the results for all draws t from 0 to T - 1; the bias is the mean minus the exact number; and the variance is the mean of the squares of the results, for all these draws, minus the square of the mean.");
        for (int bits = 1; bits <= 8; bits++) {
            int all = 1 << bits;
            String name = bits + " bits: ";
            meanIs(name + "0", stochasticRecord(bits, 0, 0, 0), bits, 0, 0, 0, 0);
            meanIs(name + "one step above 0", stochasticRecord(bits, 0, 1, 1), bits, 0, 1024, 1, 1);
            meanIs(name + "one step below 0", stochasticRecord(bits, 0, 1, -1), bits, -1024, 1024, all, -1);
            meanIs(name + "one step below 1", stochasticRecord(bits, 1024, 1, -1), bits, 0, 1024, all, (1 << 20) - 1);
            meanIs(name + "one step above -1", stochasticRecord(bits, -1024, 1, 1), bits, -1024, 1024, 1, 1 - (1 << 20));
            meanIs(name + "1/T", stochasticRecord(bits, 0, 1024 >> bits, 1024), bits, 0, 1024, 1, 1 << 20 >> bits);
            meanIs(name + "1 - 1/T", stochasticRecord(bits, 1024, 1024 >> bits, -1024), bits, 0, 1024, all - 1, (1 << 20) - (1 << 20 >> bits));
            meanIs(name + "one step below 12", stochasticRecord(bits, 12288, 1, -1), bits, 8192, 4096, all, (12 << 20) - 1);
            meanIs(name + "one step above -12", stochasticRecord(bits, -12288, 1, 1), bits, -12288, 4096, 1, 1 - (12 << 20));
            meanIs(name + "10", stochasticRecord(bits, 8192, 2048, 1024), bits, 8192, 4096, all / 2, 10 << 20);
            meanIs(name + "12", stochasticRecord(bits, 12288, 0, 0), bits, 12288, 0, 0, 12 << 20);
        }
        StochasticBench x = quotient(4, 1, 3);
        check.due("1/3, mean", x.mean(0), 86 << 10);
        check.due("1/3, bias", x.biasNumerator(0), 1);
        check.due("1/3, its denominator", x.biasDenominator(0), 384);
        check.due("1/3, variance", x.variance(0), 86L * 170 << 20);
        x = quotient(4, 1, -(1023 << 10));
        check.due("the smallest quotient below 0, mean", x.mean(0), 0);
        check.due("the smallest quotient below 0, bias", x.biasNumerator(0), 1);
        check.due("the smallest quotient below 0, its denominator", x.biasDenominator(0), 1023 << 10);
        check.due("the smallest quotient below 0, variance", x.variance(0), 0);
    }

    private static void meansOfOthers() {
        check.on("For the other operations, mean and result are the same, and the variance is 0.");
        for (int mode = 0; mode <= 3; mode++) {
            StochasticBench x = near(mode, 4096, 1024, 1024);
            long result = mode == 1 ? 6 : 4;
            check.due("mean by the mode " + mode, x.mean(0), result << 18);
            check.due("bias by the mode " + mode, x.biasNumerator(0), result - 5);
            check.due("its denominator by the mode " + mode, x.biasDenominator(0), 1);
            check.due("variance by the mode " + mode, x.variance(0), 0);
        }
        StochasticBench x = near(4, 12288, 1, 1);
        check.due("overflow, mean", x.mean(0), 12 << 18);
        check.due("overflow, bias", x.biasNumerator(0), -1);
        check.due("overflow, its denominator", x.biasDenominator(0), 1 << 20);
        check.due("overflow, variance", x.variance(0), 0);
        x = near(4, -12288, 1, -1);
        check.due("overflow below, mean", x.mean(0), -12 << 18);
        check.due("overflow below, bias", x.biasNumerator(0), 1);
        check.due("overflow below, variance", x.variance(0), 0);
        x = quotient(4, 1023 << 10, 1);
        check.due("overflow of a quotient, mean", x.mean(0), 12 << 18);
        check.due("overflow of a quotient, bias", x.biasNumerator(0), 12 - (1023 << 10));
        check.due("overflow of a quotient, variance", x.variance(0), 0);
        check.on("Returns the numerator of the bias of a record, as a fraction in lowest terms with a positive denominator (0 is 0 / 1).");
        x = near(4, 4096, 1024, 1024);
        check.due("no bias", x.biasNumerator(0), 0);
        check.due("its denominator", x.biasDenominator(0), 1);
        x = quotient(1, 1, -3);
        check.due("a bias of 1/3", x.biasNumerator(0), 1);
        check.due("three", x.biasDenominator(0), 3);
        x = near(0, 0, 1, 2);
        check.due("terms that have 2 in common", x.biasNumerator(0), -1);
        check.due("their denominator", x.biasDenominator(0), 1 << 19);
    }

    private static void accounts() {
        check.on("There is an account, in which the errors (the result minus the exact number), the biases and the variances of all operations that are no quotients are summed up since the account was cleared (or the creation):");
        StochasticBench x = quotient(4, 1, 3);
        for (int what = 0; what <= 5; what++) {
            check.due("a quotient in the account " + what, x.account(what), what == 5 ? x.flags(0) / 2 : 0);
        }
        check.due("it is a quotient", x.account(6), 1);
        x = near(0, 12288, 1, 1);
        long[] due = {1, -1, -1, 0, 1, 1, 0};
        for (int what = 0; what <= 6; what++) {
            check.due("an overflow in the account " + what, x.account(what), due[what]);
        }
        x = near(0, 0, 1023 << 10, -(1023 << 10));
        check.due("the greatest error", x.account(1), (1023L * 1023 - 12) << 20);
        x.operate(4, 0, 4, 5);
        check.due("and one more", x.account(1), (1023L * 1023 - 12) + 1023L * 1023 << 20);
        check.due("its bias is the same", x.account(2), x.account(1));
        check.on("(4 and 5: quotients included)");
        x = quotient(0, 1023 << 10, 1);
        x.operate(5, 0, 4, 5);
        check.due("overflows of quotients", x.account(4), 2);
        check.due("an absorbed quotient", x.account(5), 1);
        check.due("two quotients", x.account(6), 2);
        check.due("no others", x.account(0), 0);
        check.on("They are recorded; if there are more than 64 records, the oldest one is forgotten.");
        x = Checks.withText("#99(0=+4*5;)");
        x.setFormat(0, 2, 0, 2);
        x.setFormat(1, 10, -10, 0);
        x.setRegister(4, 1);
        x.setRegister(5, 1);
        x.setMode(0);
        x.setValue(4, 1);
        x.setValue(5, 1);
        x.run();
        check.due("but the account keeps what is forgotten", x.account(0), 99);
        check.due("and its errors", x.account(1), -99);
        check.due("and what was absorbed", x.account(5), 99);
    }

    /** 384 lies in the middle of 256 and 512, so each variance is 2^50, and 8192 of them are 2^63. */
    private static void accountsThatWrapAround() {
        check.on("Additions in the account are long arithmetic that wraps around.");
        StochasticBench x = new StochasticBench();
        x.setFormat(0, 1, 0, 9);
        x.setFormat(1, 2, 0, 7);
        x.setRegister(1, 1);
        x.setValue(1, 384 << 10);
        Checks.type(x, "#50(0=1;2=1;)");
        for (int i = 1; i <= 81; i++) {
            check.due("run " + i, x.run(), 100);
            check.due("sum after it", x.account(3), 100L * i << 50);
        }
        Checks.type(x, "#91(0=1;)");
        x.run();
        check.due("8191 of them", x.account(3), Long.MAX_VALUE - (1L << 50) + 1);
        x.operate(0, 0, 1, 1);
        check.due("8192 of them", x.account(3), Long.MIN_VALUE);
        x.operate(0, 0, 1, 1);
        check.due("8193 of them", x.account(3), Long.MIN_VALUE + (1L << 50));
        x.undo();
        check.due("and back", x.account(3), Long.MIN_VALUE);
        check.due("they are counted", x.account(0), 8192);
        Checks.type(x, "#50(0=1;2=1;)");
        for (int i = 0; i < 82; i++) {
            x.run();
        }
        check.due("16392 of them are 8 again", x.account(3), 8L << 50);
    }

    private static void clearedAccount() {
        check.on("Clears the account: all its numbers become 0.");
        StochasticBench x = Checks.busy();
        x.operate(4, 4, 4, 4);
        x.operate(3, 2, 1, 1);
        x.setValue(1, 15 << 10);
        x.operate(4, 2, 1, 1);
        x.operate(4, 2, 1, 1);
        long count = x.account(0);
        long[] before = new long[7];
        for (int what = 0; what <= 6; what++) {
            before[what] = x.account(what);
            check.must("something is in the account " + what, before[what] != 0);
        }
        int records = x.records();
        check.on("Returns the number of operations that were no quotients, which it had before (its lowest 31 bits).");
        check.due("clearAccount", x.clearAccount(), count);
        check.on("Clears the account: all its numbers become 0.");
        for (int what = 0; what <= 6; what++) {
            check.due("account " + what, x.account(what), 0);
        }
        check.due("the records stay", x.records(), records);
        check.due("the next number stays", x.told(3), records);
        check.due("an empty account", x.clearAccount(), 0);
        x.operate(0, 2, 1, 1);
        check.due("it goes on from 0", x.account(0), 1);
        x.undo();
        x.undo();
        x.undo();
        for (int what = 0; what <= 6; what++) {
            check.due("undo brings back the account " + what, x.account(what), before[what]);
        }
        x = new StochasticBench();
        x.operate(5, 1, 1, 1);
        check.due("refused operations are not counted", x.clearAccount(), 0);
    }

    // ---- formats explored

    private static void nextValues() {
        check.on("false for the smallest value of the format above v, true for the greatest one below v");
        StochasticBench x = withFormat(2, 0, 2);
        for (int i = 0; i < COARSE.length; i++) {
            int above = i + 1 < COARSE.length ? COARSE[i + 1] : NONE;
            int below = i > 0 ? COARSE[i - 1] : NONE;
            int v = COARSE[i];
            check.due("above " + v, x.next(0, v, false), above);
            check.due("above one less than " + v, x.next(0, v - 1, false), v);
            check.due("above one more than " + v, x.next(0, v + 1, false), above);
            check.due("below " + v, x.next(0, v, true), below);
            check.due("below one more than " + v, x.next(0, v + 1, true), v);
            check.due("below one less than " + v, x.next(0, v - 1, true), below);
        }
        check.on("Returns this value; NONE if there is none; BAD if f or v is out of range.");
        check.due("above the least number", x.next(0, -GREATEST, false), -12288);
        check.due("below the greatest number", x.next(0, GREATEST, true), 12288);
        check.due("above the greatest number", x.next(0, GREATEST, false), NONE);
        check.due("below the least number", x.next(0, -GREATEST, true), NONE);
        x = withFormat(10, -10, 0);
        check.due("the smallest step up", x.next(0, 0, false), 1);
        check.due("the smallest step down", x.next(0, 0, true), -1);
        check.due("the last small step", x.next(0, 1023, false), 1024);
        check.due("the first greater step", x.next(0, 1024, false), 1026);
        check.due("back to it", x.next(0, 1026, true), 1024);
        check.due("and below it", x.next(0, 1024, true), 1023);
        x = withFormat(1, 0, 0);
        check.due("three values, up", x.next(0, -GREATEST, false), -1024);
        check.due("three values, the second", x.next(0, -1024, false), 0);
        check.due("three values, the third", x.next(0, 0, false), 1024);
        check.due("three values, no fourth", x.next(0, 1024, false), NONE);
    }

    private static void counts() {
        check.on("Returns how many there are (0 is one of them, and negative values are counted, too); BAD if f is out of range.");
        check.due("the fewest", withFormat(1, 0, 0).countValues(0), 3);
        check.due("powers of two", withFormat(1, -10, 9).countValues(0), 41);
        check.due("one exponent", withFormat(10, 0, 0).countValues(0), 2047);
        check.due("the most", withFormat(10, -10, 0).countValues(0), 2 * (1023 + 10 * 512) + 1);
        check.due("the coarse ones", withFormat(2, 0, 2).countValues(0), COARSE.length);
        check.on("Returns how many values of the format are at least v and at most w; BAD if f, v or w is out of range.");
        StochasticBench x = withFormat(2, 0, 2);
        for (int i = 0; i < COARSE.length; i++) {
            int v = COARSE[i];
            check.due("at " + v, x.between(0, v, v), 1);
            check.due("up to " + v, x.between(0, -GREATEST, v), i + 1);
            check.due("up to one less than " + v, x.between(0, -GREATEST, v - 1), i);
            check.due("from " + v, x.between(0, v, GREATEST), COARSE.length - i);
            check.due("from one more than " + v, x.between(0, v + 1, GREATEST), COARSE.length - i - 1);
        }
        check.due("all", x.between(0, -GREATEST, GREATEST), COARSE.length);
        check.due("from the least to the greatest", x.between(0, -12288, 12288), COARSE.length);
        check.due("without them", x.between(0, -12287, 12287), COARSE.length - 2);
        check.due("none between two", x.between(0, 8193, 12287), 0);
        check.due("none above", x.between(0, 12289, GREATEST), 0);
        check.due("none below", x.between(0, -GREATEST, -12289), 0);
        check.due("at the greatest number", x.between(0, GREATEST, GREATEST), 0);
        check.due("at the least number", x.between(0, -GREATEST, -GREATEST), 0);
        check.on("a value, v to 1048575");
        check.due("w is less than v", x.between(0, 1024, 1023), BAD);
        check.due("w is less than v, below 0", x.between(0, -1024, -1025), BAD);
    }

    private static void contains(int due, int p, int q, int h, int p2, int q2, int h2) {
        StochasticBench x = withFormat(p, q, h);
        x.setFormat(1, p2, q2, h2);
        String what = p + " " + q + " " + h + " and " + p2 + " " + q2 + " " + h2;
        check.due(what, x.contains(0, 1), due);
    }

    private static void contained() {
        check.on("Returns 1 if each value of g is a value of f, otherwise 0; BAD if f or g is out of range.");
        contains(1, 3, -2, 2, 3, -2, 2);
        contains(0, 3, -2, 2, 4, -2, 2);
        contains(0, 3, -2, 2, 3, -3, 2);
        contains(0, 3, -2, 2, 3, -2, 3);
        contains(1, 4, -2, 2, 3, -2, 2);
        contains(1, 3, -3, 2, 3, -2, 2);
        contains(1, 3, -2, 3, 3, -2, 2);
        // A bit more precision makes up for an exponent, as long as the smallest step is there.
        contains(1, 4, -2, 1, 3, -2, 2);
        contains(0, 3, -2, 2, 4, -2, 1);
        contains(1, 3, -2, 2, 2, -2, 3);
        contains(0, 3, -2, 2, 2, -2, 4);
        contains(1, 3, -2, 2, 1, -2, 4);
        contains(0, 3, -2, 2, 1, -2, 5);
        contains(0, 3, -2, 2, 1, -3, 2);
        contains(1, 10, 0, 0, 1, 0, 9);
        contains(0, 10, 0, 0, 1, -1, 9);
        contains(1, 10, -10, 0, 1, -10, 9);
        contains(0, 1, -10, 9, 2, 0, 0);
        contains(1, 1, -10, 9, 1, 0, 0);
        contains(1, 5, 0, 0, 2, 0, 3);
        contains(0, 4, 0, 0, 2, 0, 3);
        StochasticBench x = withFormat(1, 0, 0);
        for (int f = 0; f <= 3; f++) {
            check.due("itself", x.contains(f, f), 1);
        }
    }

    /** The positive values of a format in their order. */
    private static int[] listed(int[] shape) {
        TreeSet<Integer> all = new TreeSet<>();
        for (int e = shape[1]; e <= shape[2]; e++) {
            for (int m = 1; m < 1 << shape[0]; m++) {
                all.add(m << (e + 10));
            }
        }
        return all.stream().mapToInt(v -> v).toArray();
    }

    private static boolean areAllIn(int[] some, int[] all) {
        int at = 0;
        for (int v : some) {
            while (at < all.length && all[at] < v) {
                at++;
            }
            if (at == all.length || all[at] != v) {
                return false;
            }
        }
        return true;
    }

    private static void containedOfAllFormats() {
        check.on("Returns 1 if each value of g is a value of f, otherwise 0; BAD if f or g is out of range.");
        List<int[]> shapes = new ArrayList<>();
        List<int[]> lists = new ArrayList<>();
        for (int p = 1; p <= 10; p++) {
            for (int q = -10; q <= 0; q++) {
                for (int h = 0; h <= 9 && p + h <= 10; h++) {
                    shapes.add(new int[] {p, q, h});
                    lists.add(listed(new int[] {p, q, h}));
                }
            }
        }
        for (int f = 0; f < shapes.size(); f++) {
            int[] shape = shapes.get(f);
            StochasticBench x = null;
            for (int g = 0; g < shapes.size(); g++) {
                if (g % 200 == 0) {
                    x = withFormat(shape[0], shape[1], shape[2]);
                }
                int[] other = shapes.get(g);
                x.setFormat(1, other[0], other[1], other[2]);
                boolean isContained = areAllIn(lists.get(g), lists.get(f));
                check.must("contains, the formats " + f + " and " + g, x.contains(0, 1) == (isContained ? 1 : 0));
            }
        }
    }

    // ---- the whole

    private static void toldNumbers() {
        check.on("0 for the mode, 1 for the draw bits, 2 for the seed, 3 for the number of the next operation, 4 for the number of remembered states, 5 for the bytes of the text buffer, 6 to 9 for the precision of the formats 0 to 3, 10 to 13 for their least exponents, 14 to 17 for their greatest exponents");
        StochasticBench x = new StochasticBench();
        x.setFormat(0, 10, -10, 0);
        x.setFormat(1, 1, -9, 9);
        x.setFormat(2, 2, -8, 8);
        x.setFormat(3, 3, 0, 7);
        x.setMode(0);
        x.setBits(1);
        x.setSeed(Integer.MIN_VALUE);
        Checks.type(x, "#99(1=1;)" + " ".repeat(71));
        x.run();
        int[] due = {0, 1, Integer.MIN_VALUE, 99, 6, 80, 10, 1, 2, 3, -10, -9, -8, 0, 0, 9, 8, 7};
        for (int what = 0; what <= 17; what++) {
            check.due("told " + what, x.told(what), due[what]);
        }
    }

    private static void digestThatWrapsAround() {
        check.on("h is 18432 at first; then h becomes 31 * h + v (long arithmetic that wraps around) for each of these values v, in this order:");
        check.due("of a new object", new StochasticBench().digest(), digest(new StochasticBench()));
        check.due("with records", Checks.busy().digest(), digest(Checks.busy()));
        StochasticBench x = Checks.withText("#99(5=4*4;6=+1*4;)7=1/0;");
        x.setValue(4, -GREATEST);
        x.setValue(1, GREATEST);
        x.setSeed(Integer.MIN_VALUE);
        x.run();
        check.due("with 64 records", x.digest(), digest(x));
        x.undo();
        check.due("without them", x.digest(), digest(x));
        x = Checks.withText("x");
        check.due("with one byte", x.digest(), digest(x));
    }

    private static long digest(StochasticBench x) {
        BigInteger h = BigInteger.valueOf(18432);
        for (int what = 0; what <= 17; what++) {
            h = with(h, x.told(what));
        }
        for (int r = 0; r <= 7; r++) {
            h = with(with(h, x.formatOf(r)), x.value(r));
        }
        for (int what = 0; what <= 6; what++) {
            h = with(h, x.account(what));
        }
        h = with(h, x.stopped());
        for (int i = 0; i < x.records(); i++) {
            h = with(with(with(h, x.numberOf(i)), x.operation(i)), x.result(i));
            h = with(with(h, x.neighbor(i, false)), x.neighbor(i, true));
            h = with(with(h, x.drawOf(i)), x.flags(i));
        }
        return h.longValue();
    }

    private static BigInteger with(BigInteger h, long v) {
        return h.multiply(BigInteger.valueOf(31)).add(BigInteger.valueOf(v));
    }
}
