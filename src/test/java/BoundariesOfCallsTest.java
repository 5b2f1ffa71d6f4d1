import java.io.IOException;

/** The range of each argument, the order of the codes, what a refused call leaves, and what is a change. */
public final class BoundariesOfCallsTest {
    private static final int BAD = Checks.BAD, STATE = Checks.STATE, FULL = Checks.FULL, NONE = Checks.NONE;
    private static final int GREATEST = 1048575;

    private static Checks check;

    public static void main(String[] args) throws IOException {
        check = new Checks("BoundariesOfCallsTest");
        theCodes();
        aNewObject();
        registersAndValues();
        argumentsOfFormatsAndRegisters();
        precisionAndGreatestExponent();
        argumentsOfOperationsAndPrograms();
        argumentsOfRecords();
        recordsThatAreNotThere();
        argumentsOfTheRest();
        orderOfTheCodes();
        notPossibleAtPresent();
        noSuchValue();
        callsThatChangeNothing();
        changesThatChangeNothing();
        whatSettersReturn();
        statesThatAreRemembered();
        statesAfterUndo();
        whatUndoRestores();
        whatUndoLeaves();
        fiveHundredAndTwelveCalls();
        check.finish();
    }

    private static void theCodes() {
        check.on("Error codes: BAD (-2000000001): an argument is out of range; STATE (-2000000002): the call is not possible at present, as the method says; FULL (-2000000003): a limit would be exceeded.");
        check.due("BAD", StochasticBench.BAD, -2000000001);
        check.due("STATE", StochasticBench.STATE, -2000000002);
        check.due("FULL", StochasticBench.FULL, -2000000003);
        check.due("NONE", StochasticBench.NONE, -2000000009);
        check.due("a mode that is out of range", new StochasticBench().setMode(5), -2000000001);
        check.due("undo of nothing", new StochasticBench().undo(), -2000000002);
        check.due("a byte too many", Checks.clogged().type(0), -2000000003);
        check.due("no fault", new StochasticBench().fault(), -2000000009);
    }

    private static void registersAndValues() {
        check.on("There are 8 registers, 0 to 7.");
        StochasticBench x = new StochasticBench();
        for (int r = 0; r <= 7; r++) {
            check.due("the format of the register " + r, x.setRegister(r, r % 4), 0);
            check.due("the value of the register " + r, x.setValue(r, (r + 1) << 10), (r + 1) << 10);
        }
        for (int r = 0; r <= 7; r++) {
            check.due("it keeps its format, " + r, x.formatOf(r), r % 4);
            check.due("it keeps its value, " + r, x.value(r), (r + 1) << 10);
        }
        check.due("no register -1", x.value(-1), BAD);
        check.due("no register 8", x.value(8), BAD);
        check.on("its absolute value is at most 1048575.");
        x = new StochasticBench();
        x.setFormat(0, 10, 0, 0);
        for (int sign = -1; sign <= 1; sign += 2) {
            check.due("setValue, the greatest", x.setValue(1, sign * GREATEST), sign * (1023 << 10));
            check.due("setValue, one more", x.setValue(1, sign * (GREATEST + 1)), BAD);
            check.due("isValue, the greatest", x.isValue(0, sign * GREATEST), 0);
            check.due("isValue, one more", x.isValue(0, sign * (GREATEST + 1)), BAD);
            check.due("next, the greatest", x.next(0, sign * GREATEST, sign > 0), sign * (1023 << 10));
            check.due("next, one more", x.next(0, sign * (GREATEST + 1), sign > 0), BAD);
            check.due("next the other way, the greatest", x.next(0, sign * GREATEST, sign < 0), NONE);
            check.due("next the other way, one more", x.next(0, sign * (GREATEST + 1), sign < 0), BAD);
        }
        check.due("between, the greatest", x.between(0, -GREATEST, GREATEST), 2047);
        check.due("between, one less", x.between(0, -GREATEST - 1, GREATEST), BAD);
        check.due("between, one more", x.between(0, -GREATEST, GREATEST + 1), BAD);
    }

    private static void aNewObject() {
        StochasticBench x = new StochasticBench();
        check.on("There are 4 formats, 0 to 3; at first each of them has p = 4, q = -4 and h = 3.");
        for (int f = 0; f < 4; f++) {
            check.due("precision of " + f, x.told(6 + f), 4);
            check.due("least exponent of " + f, x.told(10 + f), -4);
            check.due("greatest exponent of " + f, x.told(14 + f), 3);
        }
        check.on("Each has a format and a value of this format; at first format 0 and the value 0.");
        for (int r = 0; r < 8; r++) {
            check.due("format of " + r, x.formatOf(r), 0);
            check.due("value of " + r, x.value(r), 0);
        }
        check.on("The mode is 4 at first.");
        check.due("mode", x.told(0), 4);
        check.on("The draw bits are 1 to 8 (8 at first).");
        check.due("draw bits", x.told(1), 8);
        check.on("The seed is 1 at first.");
        check.due("seed", x.told(2), 1);
        check.on("Creates a bench in the state that is described above, with an empty text buffer, without records, and with an account in which all sums are 0.");
        check.due("bytes", x.told(5), 0);
        check.due("records", x.records(), 0);
        for (int what = 0; what <= 6; what++) {
            check.due("account " + what, x.account(what), 0);
        }
        check.due("next operation", x.told(3), 0);
        check.due("remembered states", x.told(4), 0);
        check.on("Returns 0 if the whole program was carried out, or there was no run;");
        check.due("stopped", x.stopped(), 0);
    }

    private static void argumentsOfFormatsAndRegisters() {
        check.on("BAD if f is out of range, or p, q and h are not as described.");
        check.bound("setFormat f", 0, 3, (x, a) -> x.setFormat(a, 4, -4, 3));
        check.bound("setFormat p", 1, 10, (x, a) -> x.setFormat(0, a, -4, 0));
        check.bound("setFormat q", -10, 0, (x, a) -> x.setFormat(0, 4, a, 3));
        check.bound("setFormat h", 0, 9, (x, a) -> x.setFormat(0, 1, -4, a));
        check.on("Returns the format that it had before; BAD if r or f is out of range.");
        check.bound("setRegister r", 0, 7, (x, a) -> x.setRegister(a, 1));
        check.bound("setRegister f", 0, 3, (x, a) -> x.setRegister(1, a));
        check.on("Returns the value that the register has then; BAD if r or v is out of range.");
        check.bound("setValue r", 0, 7, (x, a) -> x.setValue(a, 1024));
        check.bound("setValue v", -GREATEST, GREATEST, (x, a) -> x.setValue(1, a));
        check.on("Returns the mode before; BAD if m is out of range.");
        check.bound("setMode", 0, 4, (x, a) -> x.setMode(a));
        check.on("Returns the number before; BAD if b is out of range.");
        check.bound("setBits", 1, 8, (x, a) -> x.setBits(a));
        check.on("Returns the value; BAD if r is out of range.");
        check.bound("value", 0, 7, (x, a) -> x.value(a));
        check.on("Returns the format; BAD if r is out of range.");
        check.bound("formatOf", 0, 7, (x, a) -> x.formatOf(a));
    }

    private static void precisionAndGreatestExponent() {
        check.on("A format has a precision p (1 to 10), a least exponent q (-10 to 0) and a greatest exponent h (0 to 9), where p + h is at most 10.");
        for (int p = 0; p <= 11; p++) {
            for (int h = -1; h <= 10; h++) {
                int precision = p;
                int greatest = h;
                String shape = "p " + p + " and h " + h;
                if (p >= 1 && p <= 10 && h >= 0 && h <= 9 && p + h <= 10) {
                    StochasticBench x = new StochasticBench();
                    check.due(shape, x.setFormat(3, p, -10, h), 4);
                    check.due(shape + ": p is told", x.told(9), p);
                    check.due(shape + ": q is told", x.told(13), -10);
                    check.due(shape + ": h is told", x.told(17), h);
                    check.due(shape + ": it is returned", x.setFormat(3, 1, 0, 0), p);
                } else {
                    check.refused(shape, Checks::busy, x -> x.setFormat(1, precision, -10, greatest), BAD);
                }
            }
        }
        // A sum that wraps around is not at most 10.
        check.refused("a great p and h", Checks::busy, x -> x.setFormat(1, Integer.MAX_VALUE, 0, Integer.MAX_VALUE), BAD);
        check.refused("a great p and a small h", Checks::busy, x -> x.setFormat(1, Integer.MAX_VALUE, 0, -Integer.MAX_VALUE), BAD);
    }

    private static void argumentsOfOperationsAndPrograms() {
        check.on("Returns the result; BAD if an argument is out of range; STATE for a quotient, if the value of b is 0.");
        check.bound("operate kind", 0, 5, (x, a) -> x.operate(a, 3, 4, 1));
        for (int kind = 0; kind <= 5; kind++) {
            int k = kind;
            check.bound("operate t, kind " + k, 0, 7, (x, a) -> x.operate(k, a, 1, 4));
            check.bound("operate a, kind " + k, 0, 7, (x, a) -> x.operate(k, 2, a, 4));
            // The registers 0 and 7 are 0, so that both ends are given a value for the quotient.
            check.bound("operate b, kind " + k, 0, 7, (x, a) -> {
                if (a == 0 || a == 7) {
                    x.setValue(a, 1024);
                }
                return x.operate(k, 2, 1, a);
            });
        }
        check.on("the second register, 0 to 7 (also for the kind 0, where it does not matter)");
        check.refused("copy with b 8", Checks::busy, x -> x.operate(0, 2, 1, 8), BAD);
        check.refused("copy with b -1", Checks::busy, x -> x.operate(0, 2, 1, -1), BAD);
        for (int b = 0; b <= 7; b++) {
            check.due("copy with b " + b, Checks.busy().operate(0, 2, 1, b), 3072);
        }
        check.on("Returns how many bytes it has then; BAD if c is out of range; FULL if it has 80.");
        check.bound("type", 0, 127, (x, a) -> x.type(a));
        check.on("Returns the value; BAD if r or mode is out of range; STATE if the program has a fault.");
        check.bound("ifRun r", 0, 7, (x, a) -> x.ifRun(a, 4, 1));
        check.bound("ifRun mode", 0, 4, (x, a) -> x.ifRun(5, a, 1));
        check.on("Returns the sum; BAD if r or k is out of range; STATE if the program has a fault.");
        check.bound("ensembleSum r", 0, 7, (x, a) -> x.ensembleSum(a, 1, 2));
        check.bound("ensembleSum k", 1, 8, (x, a) -> x.ensembleSum(5, 1, a));
        check.on("Returns the greatest value minus the smallest one; BAD if r or k is out of range; STATE if the program has a fault.");
        check.bound("ensembleSpread r", 0, 7, (x, a) -> x.ensembleSpread(a, 1, 2));
        check.bound("ensembleSpread k", 1, 8, (x, a) -> x.ensembleSpread(5, 1, a));
    }

    private static void argumentsOfRecords() {
        check.on("Returns the number; BAD if there is no such record.");
        check.bound("numberOf", 0, 3, (x, a) -> x.numberOf(a));
        check.on("Returns 1000 * kind + 100 * t + 10 * a + b; BAD if there is no such record.");
        check.bound("operation", 0, 3, (x, a) -> x.operation(a));
        check.on("Returns the result; BAD if there is no such record.");
        check.bound("result", 0, 3, (x, a) -> x.result(a));
        check.on("Returns the neighbor; BAD if there is no such record.");
        check.bound("neighbor, lower", 0, 3, (x, a) -> x.neighbor(a, false));
        check.bound("neighbor, upper", 0, 3, (x, a) -> x.neighbor(a, true));
        check.on("Returns the draw; BAD if there is no such record.");
        check.bound("drawOf", 0, 3, (x, a) -> x.drawOf(a));
        check.on("Returns 1 if it was an overflow, plus 2 if it was absorbed, otherwise 0; BAD if there is no such record.");
        check.bound("flags", 0, 3, (x, a) -> x.flags(a));
        check.on("Returns the numerator; BAD if there is no such record.");
        check.bound("exactNumerator", 0, 3, (x, a) -> x.exactNumerator(a));
        check.bound("biasNumerator", 0, 3, (x, a) -> x.biasNumerator(a));
        check.on("Returns the denominator; BAD if there is no such record.");
        check.bound("exactDenominator", 0, 3, (x, a) -> x.exactDenominator(a));
        check.bound("biasDenominator", 0, 3, (x, a) -> x.biasDenominator(a));
        check.on("Returns the result that it would have; BAD if there is no such record, or mode is out of range.");
        check.bound("replay i", 0, 3, (x, a) -> x.replay(a, 4, 1));
        check.bound("replay mode", 0, 4, (x, a) -> x.replay(3, a, 1));
        check.on("Returns the mean, in units of 2 to the power of -18 (it is a multiple of this unit); BAD if there is no such record.");
        check.bound("mean", 0, 3, (x, a) -> x.mean(a));
        check.on("Returns the variance, in units of 2 to the power of -36 (it is a multiple of this unit); BAD if there is no such record.");
        check.bound("variance", 0, 3, (x, a) -> x.variance(a));
    }

    private static StochasticBench withRecords(int count) {
        StochasticBench x = Checks.withText("1=1;");
        for (int i = 0; i < count; i++) {
            x.operate(0, 1, 1, 1);
        }
        return x;
    }

    private static long[] allOf(StochasticBench x, int i) {
        return new long[] {
            x.numberOf(i), x.operation(i), x.result(i), x.neighbor(i, false), x.neighbor(i, true), x.drawOf(i), x.flags(i),
            x.exactNumerator(i), x.exactDenominator(i), x.replay(i, 4, 1), x.mean(i), x.biasNumerator(i),
            x.biasDenominator(i), x.variance(i)
        };
    }

    private static void recordsThatAreNotThere() {
        check.on("BAD if there is no such record.");
        for (int count : new int[] {0, 1, 2, 63, 64, 65, 66, 130}) {
            int kept = Math.min(count, 64);
            for (int i : new int[] {-1, 0, kept - 1, kept, 63, 64, 65}) {
                boolean isThere = i >= 0 && i < kept;
                long[] answers = allOf(withRecords(count), i);
                for (int which = 0; which < answers.length; which++) {
                    check.must("call " + which + " of the index " + i + " after " + count + " operations", answers[which] == BAD != isThere);
                }
            }
        }
        StochasticBench x = withRecords(2);
        x.undo();
        for (long answer : allOf(x, 1)) {
            check.due("a record that was taken back by undo()", answer, BAD);
        }
    }

    private static void argumentsOfTheRest() {
        check.on("Returns the number; BAD if what is not 0 to 6.");
        check.bound("account", 0, 6, (x, a) -> x.account(a));
        check.on("Returns 1 if it does, otherwise 0; BAD if f or v is out of range.");
        check.bound("isValue f", 0, 3, (x, a) -> x.isValue(a, 1024));
        check.bound("isValue v", -GREATEST, GREATEST, (x, a) -> x.isValue(1, a));
        check.on("Returns this value; NONE if there is none; BAD if f or v is out of range.");
        check.bound("next f, up", 0, 3, (x, a) -> x.next(a, 1024, false));
        check.bound("next f, down", 0, 3, (x, a) -> x.next(a, 1024, true));
        check.bound("next v, up", -GREATEST, GREATEST, (x, a) -> x.next(1, a, false));
        check.bound("next v, down", -GREATEST, GREATEST, (x, a) -> x.next(1, a, true));
        check.on("Returns how many there are (0 is one of them, and negative values are counted, too); BAD if f is out of range.");
        check.bound("countValues", 0, 3, (x, a) -> x.countValues(a));
        check.on("Returns how many values of the format are at least v and at most w; BAD if f, v or w is out of range.");
        check.bound("between f", 0, 3, (x, a) -> x.between(a, -1, 1));
        check.bound("between v", -GREATEST, GREATEST, (x, a) -> x.between(1, a, GREATEST));
        check.bound("between w", -GREATEST, GREATEST, (x, a) -> x.between(1, -GREATEST, a));
        check.bound("between v, up to w", -GREATEST, 500, (x, a) -> x.between(1, a, 500));
        check.bound("between w, from v on", -500, GREATEST, (x, a) -> x.between(1, -500, a));
        check.refused("both above", Checks::busy, x -> x.between(1, GREATEST + 1, GREATEST + 1), BAD);
        check.refused("both below", Checks::busy, x -> x.between(1, -GREATEST - 1, -GREATEST - 1), BAD);
        check.on("Returns 1 if each value of g is a value of f, otherwise 0; BAD if f or g is out of range.");
        check.bound("contains f", 0, 3, (x, a) -> x.contains(a, 1));
        check.bound("contains g", 0, 3, (x, a) -> x.contains(1, a));
        check.on("Returns the number; BAD if what is not 0 to 17.");
        check.bound("told", 0, 17, (x, a) -> x.told(a));
    }

    private static void orderOfTheCodes() {
        check.on("If several of them apply to a call, the first one in this order is returned.");
        check.refused("a quotient by 0 with a wrong t", Checks::busy, x -> x.operate(5, 8, 1, 0), BAD);
        check.refused("a quotient by 0 with a wrong a", Checks::busy, x -> x.operate(5, 2, -1, 0), BAD);
        check.refused("a wrong byte for a full text", Checks::clogged, x -> x.type(128), BAD);
        check.refused("a negative byte for a full text", Checks::clogged, x -> x.type(-1), BAD);
        check.refused("ifRun, register and fault", Checks::clogged, x -> x.ifRun(8, 0, 0), BAD);
        check.refused("ifRun, mode and fault", Checks::clogged, x -> x.ifRun(0, 5, 0), BAD);
        check.refused("ensembleSum, register and fault", Checks::clogged, x -> x.ensembleSum(8, 0, 1), BAD);
        check.refused("ensembleSum, k and fault", Checks::clogged, x -> x.ensembleSum(0, 0, 0), BAD);
        check.refused("ensembleSpread, register and fault", Checks::clogged, x -> x.ensembleSpread(-1, 0, 1), BAD);
        check.refused("ensembleSpread, k and fault", Checks::clogged, x -> x.ensembleSpread(0, 0, 9), BAD);
    }

    private static void notPossibleAtPresent() {
        check.on("A call that returns an error code changes nothing.");
        check.refused("a quotient by 0", Checks::busy, x -> x.operate(5, 2, 1, 0), STATE);
        check.refused("0 over 0", Checks::busy, x -> x.operate(5, 0, 0, 0), STATE);
        check.refused("a quotient on a new object", StochasticBench::new, x -> x.operate(5, 0, 0, 0), STATE);
        check.refused("a byte for a full text", Checks::clogged, x -> x.type(';'), FULL);
        check.refused("a blank for a full text", Checks::clogged, x -> x.type(32), FULL);
        check.refused("run with a wrong byte", Checks::clogged, x -> x.run(), STATE);
        check.refused("run that ends too early", Checks::unfinished, x -> x.run(), STATE);
        check.refused("ifRun with a wrong byte", Checks::clogged, x -> x.ifRun(5, 4, 1), STATE);
        check.refused("ifRun that ends too early", Checks::unfinished, x -> x.ifRun(5, 4, 1), STATE);
        check.refused("ensembleSum with a wrong byte", Checks::clogged, x -> x.ensembleSum(5, 1, 8), STATE);
        check.refused("ensembleSum that ends too early", Checks::unfinished, x -> x.ensembleSum(5, 1, 1), STATE);
        check.refused("ensembleSpread with a wrong byte", Checks::clogged, x -> x.ensembleSpread(5, 1, 8), STATE);
        check.refused("ensembleSpread that ends too early", Checks::unfinished, x -> x.ensembleSpread(5, 1, 1), STATE);
        check.refused("undo on a new object", StochasticBench::new, x -> x.undo(), STATE);
        check.refused("undo when all is undone", BoundariesOfCallsTest::undone, x -> x.undo(), STATE);
    }

    private static StochasticBench undone() {
        StochasticBench x = Checks.busy();
        for (int i = 0; i < 6; i++) {
            x.undo();
        }
        return x;
    }

    private static void noSuchValue() {
        check.on("NONE (-2000000009) is not an error code: it means that there is no such value, and is returned only if no error code applies.");
        check.refused("next above, wrong format", Checks::busy, x -> x.next(4, GREATEST, false), BAD);
        check.refused("next below, wrong value", Checks::busy, x -> x.next(0, -GREATEST - 1, true), BAD);
        check.refused("next above, wrong value", Checks::busy, x -> x.next(0, GREATEST + 1, false), BAD);
        check.leaves("no value above", Checks::busy, x -> x.next(1, GREATEST, false));
        check.due("no value above", Checks.busy().next(1, GREATEST, false), NONE);
        check.due("no fault", Checks.busy().fault(), NONE);
    }

    private static void callsThatChangeNothing() {
        check.on("Nothing changes.");
        check.leaves("ifRun", Checks::busy, x -> x.ifRun(5, 2, 77));
        check.leaves("ensembleSum", Checks::busy, x -> x.ensembleSum(5, 77, 8));
        check.leaves("ensembleSpread", Checks::busy, x -> x.ensembleSpread(5, 77, 8));
        for (int mode = 0; mode <= 4; mode++) {
            int m = mode;
            check.leaves("replay by the mode " + mode, Checks::busy, x -> x.replay(3, m, 77));
        }
        check.on("setFormat(), setRegister(), setValue(), setMode(), setBits(), setSeed(), operate(), run(), clearAccount() are changes");
        check.leaves("fault is none", Checks::busy, x -> x.fault());
        check.leaves("fault of a faulty text is none", Checks::clogged, x -> x.fault());
        check.leaves("stopped is none", Checks::busy, x -> x.stopped());
        check.leaves("records is none", Checks::busy, x -> x.records());
        check.leaves("digest is none", Checks::busy, x -> x.digest());
        StochasticBench x = Checks.busy();
        x.undo();
        int states = x.told(4);
        x.clear();
        check.due("clear is none", x.told(4), states);
        x.type(';');
        check.due("type is none", x.told(4), states);
    }

    /** Each change, with arguments that leave everything as it is. */
    private static long changeNothing(StochasticBench x, int which) {
        switch (which) {
            case 0: return x.setFormat(0, 4, -4, 3);
            case 1: return x.setRegister(0, 0);
            case 2: return x.setValue(0, 0);
            case 3: return x.setMode(4);
            case 4: return x.setBits(8);
            case 5: return x.setSeed(1);
            case 6: return x.run();
            default: return x.clearAccount();
        }
    }

    private static void changesThatChangeNothing() {
        check.on("are changes if they return no error code, also if everything is as before.");
        long[] answers = {4, 0, 0, 4, 8, 1, 0, 0};
        for (int which = 0; which < answers.length; which++) {
            StochasticBench x = new StochasticBench();
            check.due("the change " + which, changeNothing(x, which), answers[which]);
            check.due("the change " + which + " is one", x.told(4), 1);
            changeNothing(x, which);
            check.due("the change " + which + " is one again", x.told(4), 2);
            check.due("the change " + which + " is undone", x.undo(), 1);
        }
        StochasticBench x = new StochasticBench();
        x.operate(0, 0, 0, 0);
        check.due("operate is one", x.told(4), 1);
        Checks.type(x, "1=1/1;");
        check.due("a run that stops at once", x.run(), 0);
        check.due("it is one, too", x.told(4), 2);
    }

    private static void whatSettersReturn() {
        check.on("Returns the seed before.");
        StochasticBench x = new StochasticBench();
        int before = 1;
        for (int seed : new int[] {Integer.MAX_VALUE, Integer.MIN_VALUE, 0, -1, BAD, STATE, FULL, NONE, 1}) {
            check.due("before " + seed, x.setSeed(seed), before);
            check.due("told " + seed, x.told(2), seed);
            before = seed;
        }
        check.due("each of them was a change", x.told(4), 6);
        check.due("the last but one is restored", x.undo() == 5 ? x.told(2) : 0, NONE);
        check.on("Returns the mode before; BAD if m is out of range.");
        for (int m = 0; m <= 4; m++) {
            x = new StochasticBench();
            x.setMode(m);
            check.due("mode " + m, x.setMode(0), m);
        }
        check.on("Returns the number before; BAD if b is out of range.");
        for (int b = 1; b <= 8; b++) {
            x = new StochasticBench();
            x.setBits(b);
            check.due("bits " + b, x.setBits(1), b);
        }
        check.on("Returns the format that it had before; BAD if r or f is out of range.");
        for (int f = 0; f <= 3; f++) {
            x = new StochasticBench();
            x.setRegister(7, f);
            check.due("format " + f, x.setRegister(7, 0), f);
            check.due("another register", x.setRegister(6, f), 0);
        }
        check.on("The value of each register with this format becomes 0.");
        for (int f = 0; f <= 3; f++) {
            x = new StochasticBench();
            for (int r = 0; r < 8; r++) {
                x.setRegister(r, r % 4);
                x.setValue(r, 1024);
            }
            x.setFormat(f, 4, -4, 3);
            for (int r = 0; r < 8; r++) {
                check.due("format " + f + ", register " + r, x.value(r), r % 4 == f ? 0 : 1024);
            }
        }
        check.on("Gives a format to a register, whose value becomes 0.");
        x = new StochasticBench();
        for (int r = 0; r < 8; r++) {
            x.setValue(r, 1024);
        }
        x.setRegister(3, 0);
        for (int r = 0; r < 8; r++) {
            check.due("register " + r, x.value(r), r == 3 ? 0 : 1024);
        }
    }

    private static void statesThatAreRemembered() {
        check.on("At most 6 recorded states are remembered: when one more is recorded, the oldest one is dropped; undo() restores the latest one and removes it.");
        for (int changes = 0; changes <= 14; changes++) {
            StochasticBench x = new StochasticBench();
            for (int i = 0; i < changes; i++) {
                x.setSeed(100 + i);
                check.due("states after the change " + i, x.told(4), Math.min(6, i + 1));
            }
            int kept = Math.min(6, changes);
            for (int i = 1; i <= kept; i++) {
                check.due("undo " + i + " of " + changes, x.undo(), kept - i);
                int left = changes - i;
                check.due("seed after undo " + i + " of " + changes, x.told(2), left == 0 ? 1 : 99 + left);
                check.due("states after undo " + i + " of " + changes, x.told(4), kept - i);
            }
            check.due("no more after " + changes, x.undo(), STATE);
            int left = changes - kept;
            check.due("it leaves the seed", x.told(2), left == 0 ? 1 : 99 + left);
        }
    }

    private static void statesAfterUndo() {
        check.on("Returns how many states are still remembered; STATE if there is none.");
        StochasticBench one = new StochasticBench();
        check.due("none yet", one.undo(), STATE);
        one.setMode(0);
        check.due("the only one", one.undo(), 0);
        check.due("none any more", one.undo(), STATE);
        check.on("Returns to the latest remembered state, which is not remembered any more then.");
        StochasticBench x = new StochasticBench();
        for (int i = 0; i < 9; i++) {
            x.setSeed(100 + i);
        }
        for (int i = 0; i < 4; i++) {
            x.undo();
        }
        check.due("after four", x.told(2), 104);
        for (int i = 0; i < 5; i++) {
            x.setSeed(200 + i);
        }
        check.due("two and five are one too many", x.told(4), 6);
        int[] seeds = {203, 202, 201, 200, 104, 103};
        for (int i = 0; i < 6; i++) {
            check.due("undo " + i, x.undo(), 5 - i);
            check.due("seed after it " + i, x.told(2), seeds[i]);
        }
        check.due("the oldest one was dropped", x.undo(), STATE);
    }

    private static long change(StochasticBench x, int which) {
        switch (which) {
            case 0: return x.setFormat(0, 3, -2, 1);
            case 1: return x.setRegister(1, 2);
            case 2: return x.setValue(1, 8192);
            case 3: return x.setMode(0);
            case 4: return x.setBits(5);
            case 5: return x.setSeed(99);
            case 6: return x.operate(1, 7, 1, 4);
            case 7: return x.run();
            default: return x.clearAccount();
        }
    }

    /** As busy(), with a run that stopped as the one of busy() does, and room for one more state. */
    private static StochasticBench withRoom() {
        StochasticBench x = Checks.busy();
        x.undo();
        return x;
    }

    private static StochasticBench with64Records() {
        StochasticBench x = Checks.busy();
        Checks.type(x, "#99(5=4*4;6=+1*4;)7=1/0;");
        x.run();
        x.undo();
        x.setFormat(0, 4, -4, 3);
        x.setValue(1, 3072);
        x.run();
        Checks.type(x, "7=1;");
        x.run();
        x.undo();
        return x;
    }

    private static void whatUndoRestores() {
        check.on("Each change records the state (formats, registers, mode, draw bits, seed, the number of the next operation, records, account) before it.");
        for (int which = 0; which <= 8; which++) {
            StochasticBench x = withRoom();
            long before = x.digest();
            change(x, which);
            check.must("the change " + which + " changes something", x.digest() != before);
            check.due("undo of the change " + which, x.undo(), 5);
            check.must("all is as before the change " + which, Checks.whole(x).equals(Checks.whole(withRoom())));
            x = with64Records();
            change(x, which);
            check.due("undo of the change " + which + " with 64 records", x.undo(), 5);
            check.must("all is as before the change " + which + " with 64 records", Checks.whole(x).equals(Checks.whole(with64Records())));
        }
    }

    private static void whatUndoLeaves() {
        check.on("undo() does not change this.");
        StochasticBench x = Checks.busy();
        check.due("a run before a quotient by 0", x.stopped(), 2);
        x.undo();
        check.due("it stays the latest run", x.stopped(), 2);
        Checks.type(x, "#99(1=1;)#2(1=1;)");
        x.run();
        x.undo();
        check.due("a run of too many operations", x.stopped(), 1);
        Checks.type(x, "1=1;");
        x.run();
        x.undo();
        check.due("a run to the end", x.stopped(), 0);
        check.on("Each change records the state (formats, registers, mode, draw bits, seed, the number of the next operation, records, account) before it.");
        x = new StochasticBench();
        x.setMode(0);
        Checks.type(x, "1=1;");
        x.undo();
        check.due("the text is no part of the state", x.told(5), 4);
        check.due("nor are its bytes", x.run(), 1);
        x.clear();
        x.undo();
        check.due("what is cleared stays cleared", x.told(5), 0);
    }

    private static void fiveHundredAndTwelveCalls() {
        check.on("An object is used for at most 512 calls after it has been made;");
        StochasticBench x = new StochasticBench();
        for (int i = 0; i < 511; i++) {
            check.due("operate " + i, x.operate(0, 1, 1, 1), 0);
        }
        check.due("the last call", x.told(3), 511);
        x = Checks.withText("#50(1=1;2=2;)");
        int calls = 14;
        for (; calls < 511; calls++) {
            check.due("run", x.run(), 100);
        }
        check.due("the last call after many runs", x.account(0), 100 * (511 - 14));
        x = new StochasticBench();
        for (int i = 0; i < 511; i++) {
            x.setSeed(i);
        }
        check.due("the last call after many changes", x.undo(), 5);
    }
}
