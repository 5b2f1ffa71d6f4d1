/**
 * The document's promises one by one, each with ordinary inputs, the edges that it names and wrong
 * inputs, and the document's three examples. What is due was worked out by hand from the document.
 */
public final class PromisesTest {
    private static final int BAD = -2000000001, STATE = -2000000002, FULL = -2000000003, NONE = -2000000009;

    private static int wrong = 0;

    public static void main(String[] args) {
        examples();
        p01NewObject();
        p02SetFormat();
        p03SetRegister();
        p04SetValue();
        p05SetMode();
        p06SetBits();
        p07SetSeed();
        p08Value();
        p09FormatOf();
        p10Operate();
        p10Rounding();
        p11Type();
        p12Clear();
        p13Fault();
        p14Run();
        p15Stopped();
        p16IfRun();
        p17EnsembleSum();
        p18EnsembleSpread();
        p19Records();
        p20NumberOf();
        p21Operation();
        p22Result();
        p23Neighbor();
        p24DrawOf();
        p25Flags();
        p26ExactNumerator();
        p28Replay();
        p29Mean();
        p30Bias();
        p32Variance();
        p33Account();
        p34ClearAccount();
        p35IsValue();
        p36Next();
        p37CountValues();
        p38Between();
        p39Contains();
        p40Undo();
        p40UndoOfEach();
        p41Told();
        p42Digest();
        System.out.println(wrong == 0 ? "PromisesTest: all answers are as due" : "PromisesTest: " + wrong + " wrong");
        if (wrong != 0) {
            System.exit(1);
        }
    }

    private static void due(String what, long got, long want) {
        if (got != want) {
            wrong++;
            System.out.println(what + " answered " + got + ", due is " + want);
        }
    }

    /** A refused call answers its code and leaves everything as it was. */
    private static void refused(String what, StochasticBench x, long digestBefore, long got, long want) {
        due(what, got, want);
        due(what + " changes nothing", x.digest(), digestBefore);
    }

    private static void type(StochasticBench x, String text) {
        x.clear();
        for (int i = 0; i < text.length(); i++) {
            x.type(text.charAt(i));
        }
    }

    /** Format 0 has the values 0, 1, 2, 3, 4, 6, 8, 12 and their negatives. */
    private static StochasticBench coarse() {
        StochasticBench x = new StochasticBench();
        x.setFormat(0, 2, 0, 2);
        return x;
    }

    /** As coarse(), with the mode; the registers 4 to 7 have the fine format 1 (steps of 1/1024 up to 1). */
    private static StochasticBench coarseAndFine(int mode) {
        StochasticBench x = coarse();
        x.setFormat(1, 10, -10, 0);
        for (int r = 4; r < 8; r++) {
            x.setRegister(r, 1);
        }
        x.setMode(mode);
        return x;
    }

    private static int drawByDocument(int n, int seed, int bits) {
        int x = seed + n * 747796405;
        x = (x ^ (x >>> 16)) * 73244475;
        x = (x ^ (x >>> 16)) * 73244475;
        return (x ^ (x >>> 16)) & ((1 << bits) - 1);
    }

    private static void examples() {
        StochasticBench x = new StochasticBench();
        due("example 1 setFormat", x.setFormat(0, 2, 0, 3), 4);
        due("example 1 setMode", x.setMode(3), 4);
        due("example 1 setValue 0", x.setValue(0, 5120), 4096);
        due("example 1 setValue 1", x.setValue(1, 3072), 3072);
        due("example 1 operate", x.operate(1, 2, 0, 1), 6144);
        due("example 1 lower", x.neighbor(0, false), 6144);
        due("example 1 upper", x.neighbor(0, true), 8192);
        due("example 1 flags", x.flags(0), 0);

        x = new StochasticBench();
        due("example 2 setFormat", x.setFormat(0, 2, 0, 2), 4);
        due("example 2 setBits", x.setBits(2), 8);
        due("example 2 setValue 0", x.setValue(0, 4096), 4096);
        due("example 2 setValue 1", x.setValue(1, 1024), 1024);
        due("example 2 operate", x.operate(1, 2, 0, 1), 4096);
        due("example 2 drawOf", x.drawOf(0), 3);
        due("example 2 mean", x.mean(0), 1310720);
        due("example 2 biasNumerator", x.biasNumerator(0), 0);
        due("example 2 variance", x.variance(0), 68719476736L);
        due("example 2 replay", x.replay(0, 3, 0), 4096);

        x = new StochasticBench();
        String text = "1=0/2;";
        for (int i = 0; i < text.length(); i++) {
            due("example 3 type " + i, x.type(text.charAt(i)), i + 1);
        }
        due("example 3 fault", x.fault(), NONE);
        due("example 3 run", x.run(), 0);
        due("example 3 stopped", x.stopped(), 2);
        due("example 3 setValue", x.setValue(2, 1024), 1024);
        due("example 3 second run", x.run(), 1);
        due("example 3 stopped again", x.stopped(), 0);
        due("example 3 operate", x.operate(5, 1, 0, 3), STATE);
        due("example 3 isValue", x.isValue(4, 0), BAD);
        due("example 3 undo", x.undo(), 2);
    }

    private static void p01NewObject() {
        due("BAD", StochasticBench.BAD, BAD);
        due("STATE", StochasticBench.STATE, STATE);
        due("FULL", StochasticBench.FULL, FULL);
        due("NONE", StochasticBench.NONE, NONE);
        StochasticBench x = new StochasticBench();
        int[] told = {4, 8, 1, 0, 0, 0, 4, 4, 4, 4, -4, -4, -4, -4, 3, 3, 3, 3};
        for (int i = 0; i < told.length; i++) {
            due("1 told " + i, x.told(i), told[i]);
        }
        for (int r = 0; r < 8; r++) {
            due("1 value " + r, x.value(r), 0);
            due("1 formatOf " + r, x.formatOf(r), 0);
        }
        for (int i = 0; i < 7; i++) {
            due("1 account " + i, x.account(i), 0);
        }
        due("1 records", x.records(), 0);
        due("1 stopped", x.stopped(), 0);
        due("1 fault", x.fault(), NONE);
        due("1 clear", x.clear(), 0);
        due("1 undo", x.undo(), STATE);
        StochasticBench y = new StochasticBench();
        x.setMode(1);
        due("1 objects are apart", y.told(0), 4);
    }

    private static void p02SetFormat() {
        StochasticBench x = new StochasticBench();
        x.setRegister(3, 2);
        x.setValue(0, 1024);
        x.setValue(3, 2048);
        due("2 setFormat", x.setFormat(2, 5, -6, 4), 4);
        due("2 precision", x.told(8), 5);
        due("2 least", x.told(12), -6);
        due("2 greatest", x.told(16), 4);
        due("2 register of the format", x.value(3), 0);
        due("2 register of another one", x.value(0), 1024);
        due("2 is a change", x.told(4), 4);
        due("2 again", x.setFormat(2, 10, -10, 0), 5);
        due("2 widest exponents", x.setFormat(2, 1, -10, 9), 10);
        due("2 narrowest", x.setFormat(2, 1, 0, 0), 1);
        due("2 sum of ten", x.setFormat(2, 7, 0, 3), 1);
        x.setValue(3, 1024);
        due("2 same format", x.setFormat(2, 7, 0, 3), 7);
        due("2 same format empties too", x.value(3), 0);
        x.setFormat(0, 4, -4, 3);
        due("2 the first register is emptied, too", x.value(0), 0);
        long d = x.digest();
        int[][] bad = {
            {-1, 4, -4, 3}, {4, 4, -4, 3}, {0, 0, -4, 3}, {0, 11, -4, 0}, {0, 4, -11, 3}, {0, 4, 1, 3}, {0, 4, -4, -1},
            {0, 1, -4, 10}, {0, 6, 0, 5}, {0, 10, 0, 1}, {0, 2, 0, 9}, {0, Integer.MAX_VALUE, 0, Integer.MAX_VALUE},
            {0, Integer.MIN_VALUE, 0, 0}, {Integer.MIN_VALUE, 4, -4, 3}, {0, 4, Integer.MIN_VALUE, 3}
        };
        for (int[] b : bad) {
            refused("2 bad format", x, d, x.setFormat(b[0], b[1], b[2], b[3]), BAD);
        }
    }

    private static void p03SetRegister() {
        StochasticBench x = new StochasticBench();
        x.setValue(7, 1024);
        x.setValue(6, 1024);
        due("3 setRegister", x.setRegister(7, 3), 0);
        due("3 formatOf", x.formatOf(7), 3);
        due("3 value", x.value(7), 0);
        due("3 other register", x.value(6), 1024);
        due("3 is a change", x.told(4), 3);
        due("3 again", x.setRegister(7, 1), 3);
        x.setValue(7, 1024);
        due("3 same", x.setRegister(7, 1), 1);
        due("3 same empties too", x.value(7), 0);
        long d = x.digest();
        refused("3 register -1", x, d, x.setRegister(-1, 0), BAD);
        refused("3 register 8", x, d, x.setRegister(8, 0), BAD);
        refused("3 format -1", x, d, x.setRegister(0, -1), BAD);
        refused("3 format 4", x, d, x.setRegister(0, 4), BAD);
    }

    private static void p04SetValue() {
        StochasticBench x = coarse();
        x.setMode(1);
        int[][] rounded = {
            {0, 0}, {512, 0}, {513, 1024}, {-512, 0}, {-513, -1024}, {5120, 4096}, {5121, 6144}, {-5120, -4096},
            {-5121, -6144}, {7168, 6144}, {7169, 8192}, {10240, 8192}, {10241, 12288}, {12288, 12288}, {12289, 12288},
            {1048575, 12288}, {-1048575, -12288}, {3072, 3072}, {1, 0}, {-1, 0}
        };
        for (int[] pair : rounded) {
            due("4 setValue " + pair[0], x.setValue(2, pair[0]), pair[1]);
            due("4 value " + pair[0], x.value(2), pair[1]);
        }
        due("4 is a change", x.told(4), 6);
        due("4 is no operation", x.told(3), 0);
        due("4 no record", x.records(), 0);
        due("4 no account", x.account(0), 0);
        x.setRegister(1, 1);
        due("4 by the format of the register", x.setValue(1, 5120), 5120);
        long d = x.digest();
        refused("4 register -1", x, d, x.setValue(-1, 0), BAD);
        refused("4 register 8", x, d, x.setValue(8, 0), BAD);
        refused("4 value above", x, d, x.setValue(0, 1048576), BAD);
        refused("4 value below", x, d, x.setValue(0, -1048576), BAD);
        refused("4 least int", x, d, x.setValue(0, Integer.MIN_VALUE), BAD);
    }

    private static void p05SetMode() {
        StochasticBench x = new StochasticBench();
        int before = 4;
        for (int m = 0; m < 5; m++) {
            due("5 setMode " + m, x.setMode(m), before);
            due("5 told " + m, x.told(0), m);
            before = m;
        }
        due("5 same", x.setMode(4), 4);
        due("5 is a change, also if it is as before", x.told(4), 6);
        long d = x.digest();
        refused("5 mode -1", x, d, x.setMode(-1), BAD);
        refused("5 mode 5", x, d, x.setMode(5), BAD);
    }

    private static void p06SetBits() {
        StochasticBench x = new StochasticBench();
        due("6 setBits", x.setBits(1), 8);
        due("6 told", x.told(1), 1);
        due("6 again", x.setBits(8), 1);
        due("6 same", x.setBits(8), 8);
        due("6 is a change", x.told(4), 3);
        long d = x.digest();
        refused("6 bits 0", x, d, x.setBits(0), BAD);
        refused("6 bits 9", x, d, x.setBits(9), BAD);
        refused("6 bits -1", x, d, x.setBits(-1), BAD);
    }

    private static void p07SetSeed() {
        StochasticBench x = new StochasticBench();
        due("7 setSeed", x.setSeed(Integer.MIN_VALUE), 1);
        due("7 told", x.told(2), Integer.MIN_VALUE);
        due("7 again", x.setSeed(-7), Integer.MIN_VALUE);
        due("7 same", x.setSeed(-7), -7);
        due("7 is a change", x.told(4), 3);
        due("7 the seed may look like a code", x.setSeed(BAD), -7);
        due("7 and is told", x.setSeed(5), BAD);
        due("7 and was a change", x.told(4), 5);
    }

    private static void p08Value() {
        StochasticBench x = new StochasticBench();
        x.setValue(0, 1024);
        x.setValue(7, -2048);
        due("8 value 0", x.value(0), 1024);
        due("8 value 7", x.value(7), -2048);
        due("8 register -1", x.value(-1), BAD);
        due("8 register 8", x.value(8), BAD);
    }

    private static void p09FormatOf() {
        StochasticBench x = new StochasticBench();
        x.setRegister(7, 3);
        due("9 formatOf 7", x.formatOf(7), 3);
        due("9 formatOf 0", x.formatOf(0), 0);
        due("9 register -1", x.formatOf(-1), BAD);
        due("9 register 8", x.formatOf(8), BAD);
    }

    private static void p10Operate() {
        StochasticBench x = coarseAndFine(3);
        x.setValue(0, 3072);
        x.setValue(1, 2048);
        due("10 copy", x.operate(0, 2, 0, 1), 3072);
        due("10 value", x.value(2), 3072);
        due("10 difference", x.operate(2, 2, 0, 1), 1024);
        due("10 difference the other way", x.operate(2, 2, 1, 0), -1024);
        due("10 product", x.operate(3, 2, 0, 1), 6144);
        due("10 fused", x.operate(4, 2, 1, 1), 8192);
        due("10 fused adds what it writes", x.exactNumerator(4), 10);
        due("10 sum", x.operate(1, 2, 1, 1), 4096);
        due("10 quotient", x.operate(5, 2, 0, 1), 1024);
        due("10 exact quotient", x.exactNumerator(6), 3);
        due("10 exact quotient's denominator", x.exactDenominator(6), 2);
        due("10 numbers go on", x.told(3), 7);
        due("10 is a change", x.told(4), 6);
        due("10 other registers", x.value(0), 3072);
        due("10 target is a source", x.operate(1, 1, 1, 1), 4096);
        due("10 to another format", x.operate(5, 4, 1, 2), 4096);
        x.setValue(3, 0);
        long d = x.digest();
        refused("10 quotient by 0", x, d, x.operate(5, 2, 0, 3), STATE);
        refused("10 kind -1", x, d, x.operate(-1, 0, 0, 0), BAD);
        refused("10 kind 6", x, d, x.operate(6, 0, 0, 0), BAD);
        refused("10 t -1", x, d, x.operate(1, -1, 0, 0), BAD);
        refused("10 t 8", x, d, x.operate(1, 8, 0, 0), BAD);
        refused("10 a -1", x, d, x.operate(1, 0, -1, 0), BAD);
        refused("10 a 8", x, d, x.operate(1, 0, 8, 0), BAD);
        refused("10 b -1", x, d, x.operate(1, 0, 0, -1), BAD);
        refused("10 b 8 for a copy", x, d, x.operate(0, 0, 0, 8), BAD);
        refused("10 BAD comes before STATE", x, d, x.operate(5, 8, 0, 3), BAD);
        due("10 others may have a b of 0", x.operate(3, 2, 0, 3), 0);
        due("10 0 over something", x.operate(5, 2, 3, 0), 0);
    }

    /** 5 lies between 4 and 6, 2.5 between 2 and 3, 1/3 between 0 and 1. */
    private static void p10Rounding() {
        int[][] up = {{4096, 6144, 4096, 4096}, {-6144, -4096, -4096, -4096}};
        for (int mode = 0; mode < 4; mode++) {
            StochasticBench x = coarse();
            x.setMode(mode);
            x.setValue(0, 4096);
            x.setValue(1, 1024);
            due("rounding 5 by mode " + mode, x.operate(1, 2, 0, 1), up[0][mode]);
            x.setValue(0, -4096);
            due("rounding -5 by mode " + mode, x.operate(2, 2, 0, 1), up[1][mode]);
            due("no draw by mode " + mode, x.drawOf(0), 0);
            x.setValue(0, 12288);
            due("overflow by mode " + mode, x.operate(1, 2, 0, 1), 12288);
            x.setValue(0, -12288);
            due("negative overflow by mode " + mode, x.operate(2, 2, 0, 1), -12288);
            x.setValue(0, 8192);
            x.setValue(1, 4096);
            due("the greatest value by mode " + mode, x.operate(1, 2, 0, 1), 12288);
            due("it is no overflow by mode " + mode, x.flags(4), 0);
            x.setValue(0, -8192);
            due("the least value by mode " + mode, x.operate(2, 2, 0, 1), -12288);
            due("it is no overflow either by mode " + mode, x.flags(5), 0);
            x = coarseAndFine(mode);
            x.setValue(4, 1);
            x.setValue(5, 512);
            due("half of the smallest value by mode " + mode, x.operate(3, 6, 4, 5), mode == 1 ? 1 : 0);
            x.setValue(5, -512);
            due("its negative by mode " + mode, x.operate(3, 6, 4, 5), mode == 0 ? -1 : 0);
        }
        StochasticBench x = coarse();
        x.setMode(3);
        x.setValue(0, 1024);
        x.setValue(1, 3072);
        due("nearest to 1/3", x.operate(5, 2, 0, 1), 0);
        x.setValue(0, 2048);
        due("nearest to 2/3", x.operate(5, 2, 0, 1), 1024);
        x.setValue(1, -3072);
        due("nearest to -2/3", x.operate(5, 2, 0, 1), -1024);
        for (int seed = 0; seed < 16; seed++) {
            x = coarse();
            x.setBits(2);
            x.setSeed(seed);
            x.setValue(0, 4096);
            x.setValue(1, 1024);
            due("stochastic 5", x.operate(1, 2, 0, 1), drawByDocument(0, seed, 2) < 2 ? 6144 : 4096);
            x.setValue(1, 3072);
            x.setValue(0, 1024);
            due("stochastic 1/3", x.operate(5, 2, 0, 1), drawByDocument(1, seed, 2) < 2 ? 1024 : 0);
            x.setValue(0, -1024);
            due("stochastic -1/3", x.operate(5, 2, 0, 1), drawByDocument(2, seed, 2) < 3 ? 0 : -1024);
        }
    }

    private static void p11Type() {
        StochasticBench x = new StochasticBench();
        due("11 least byte", x.type(0), 1);
        due("11 greatest byte", x.type(127), 2);
        long d = x.digest();
        refused("11 byte -1", x, d, x.type(-1), BAD);
        refused("11 byte 128", x, d, x.type(128), BAD);
        for (int i = 3; i <= 80; i++) {
            due("11 type " + i, x.type(32), i);
        }
        d = x.digest();
        refused("11 full", x, d, x.type(32), FULL);
        refused("11 BAD comes before FULL", x, d, x.type(128), BAD);
        due("11 is no change", x.told(4), 0);
        due("11 the bytes are kept in order", x.fault(), 0);
    }

    private static void p12Clear() {
        StochasticBench x = new StochasticBench();
        type(x, "x=");
        due("12 clear", x.clear(), 2);
        due("12 empty", x.told(5), 0);
        due("12 again", x.clear(), 0);
        due("12 nothing is left of it", x.fault(), NONE);
        due("12 is no change", x.told(4), 0);
        due("12 typing starts anew", x.type('1'), 1);
    }

    private static void p13Fault() {
        StochasticBench x = new StochasticBench();
        String[] fine = {
            "", " ", "1=1;", " 1 = 1 + 2 ; ", "1=+1*2;", " 1 = + 1 * 2 ; ", "0=7/7;", "7=0-1;", "1=1*2;", "#1()", "#12 ()",
            " #1 ( ) ", "#00(#9(#99(1=1;)))", "#1(#1(#1()#1()))#1()", "1=1;2=2;#3(1=2;3=4;)4=5;", "#0(1=1;)"
        };
        for (String text : fine) {
            type(x, text);
            due("13 fault of " + text, x.fault(), NONE);
        }
        String[] faulty = {
            "1", "1=", "1=1", "1=1 ", "1=1+", "1=1+2", "1=+", "1=+1", "1=+1*", "1=+1*2", "#", "#1", "#12", "#1 ", "#1(",
            "#1(1=1;", "#1(#1()", "#1(#1(#1(#1", "#1(#1(#1(#"
        };
        for (String text : faulty) {
            type(x, text);
            due("13 early end of " + text, x.fault(), text.length());
        }
        Object[][] marked = {
            {"8=1;", 0}, {"9=1;", 0}, {"1=8;", 2}, {"1=1+8;", 4}, {"1=+8*1;", 3}, {"1=+1*8;", 5}, {"1=+1+2;", 4},
            {"1=-1;", 2}, {"1=1;)", 4}, {")", 0}, {"(", 0}, {"1=1;;", 4}, {"1=1,", 3}, {"11=1;", 1}, {"1=12;", 3},
            {"1=1+23;", 5}, {"1=1++2;", 4}, {"1=+1;", 4}, {"# 1()", 1}, {"#1 2()", 3}, {"#123()", 3}, {"#a", 1},
            {"#()", 1}, {"#1x", 2}, {"#1)", 2}, {"#1=1;", 2}, {"#1(#1(#1(#1(", 11}, {"#1(#1(#1(# ", 10},
            {"#1(1=1;))", 8}, {"#1(1=1)", 6}, {"=1;", 0}, {"1 1", 2}, {"\t", 0}, {"1=1;\u0000", 4}, {"1=1;a", 4},
            {"1=1=", 3}, {"1=#1", 2}, {"#1(#1(#1( 1=1; #1 (", 18}, {"1+1;", 1}, {"1=(1);", 2}
        };
        for (Object[] pair : marked) {
            type(x, (String) pair[0]);
            due("13 fault of " + pair[0], x.fault(), (Integer) pair[1]);
        }
        due("13 is no change", x.told(4), 0);
    }

    private static void p14Run() {
        StochasticBench x = new StochasticBench();
        x.setMode(3);
        x.setValue(1, 1024);
        x.setValue(2, 2048);
        x.setValue(3, 3072);
        type(x, "0=1+2;4=3-1;5=2*3;6=3/2;7=3;1=+2*3;");
        due("14 run", x.run(), 6);
        int[] values = {3072, 7168, 2048, 3072, 2048, 6144, 1536, 3072};
        for (int r = 0; r < 8; r++) {
            due("14 value " + r, x.value(r), values[r]);
        }
        due("14 is one change", x.told(4), 5);
        due("14 numbers", x.told(3), 6);
        due("14 records", x.records(), 6);
        due("14 the text stays", x.told(5), 35);
        x = new StochasticBench();
        x.setMode(3);
        x.setValue(1, 1024);
        type(x, "#2(0=0+1;#3(2=2+1;#2(3=3+1;)))#0(4=1;)");
        due("14 nested loops", x.run(), 2 + 6 + 12);
        due("14 outer", x.value(0), 2048);
        due("14 middle", x.value(2), 6144);
        due("14 inner", x.value(3), 12288);
        due("14 none at all", x.value(4), 0);
        due("14 order", x.operation(1), 1221);
        due("14 order within", x.operation(2), 1331);
        due("14 order of the rounds", x.operation(4), 1221);
        type(x, "#99(#99(#99()))#99(#99(#0(1=1;)#99()))");
        due("14 loops without operations", x.run(), 0);
        due("14 they end", x.stopped(), 0);
        due("14 and are a change", x.told(4), 4);
        type(x, "#2(#99(#99())5=1;)");
        due("14 empty loops before an operation", x.run(), 2);
        type(x, "#99(#99(#99()#99()))5=1;");
        due("14 very many rounds before an operation", x.run(), 1);
        type(x, "#0(5=1;#9(5=1;)5=1;)6=1;6=1;");
        due("14 what follows a loop of no rounds", x.run(), 2);
        type(x, "#2(5=1;#0(5=1;)6=1;)");
        due("14 a loop of no rounds within another", x.run(), 4);
        type(x, "#1(5=1;#1(5=1;#1(5=1;)))");
        due("14 loops of one round", x.run(), 3);
        type(x, "#2(#3(5=1;)#2(#4(5=1;)))");
        due("14 loops side by side", x.run(), 2 * (3 + 8));
        type(x, "#5(#5(#5(5=1/0;)))");
        x.setValue(0, 0);
        due("14 stops within three loops", x.run(), 0);
        due("14 and once more", x.run(), 0);
        type(x, "#2(#2(#2(5=1;)))");
        due("14 loops after such a stop", x.run(), 8);
        type(x, "#07(5=1;)");
        due("14 count with a leading 0", x.run(), 7);
        type(x, "#10(5=1;)");
        due("14 count of two digits", x.run(), 10);
        type(x, "1=1");
        long d = x.digest();
        refused("14 fault", x, d, x.run(), STATE);
        type(x, "");
        due("14 empty program", x.run(), 0);
    }

    private static void p15Stopped() {
        StochasticBench x = new StochasticBench();
        due("15 no run", x.stopped(), 0);
        x.setValue(1, 1024);
        type(x, "#50(0=1;2=1;)");
        due("15 hundred", x.run(), 100);
        due("15 hundred are not too many", x.stopped(), 0);
        type(x, "#50(0=1;2=1;)3=1;");
        due("15 hundred and one", x.run(), 100);
        due("15 are too many", x.stopped(), 1);
        due("15 the last is not done", x.value(3), 0);
        due("15 what was done stays", x.value(2), 1024);
        type(x, "#50(0=1;2=1;)3=1/7;");
        x.run();
        due("15 also if it is a quotient by 0", x.stopped(), 1);
        type(x, "#99(0=1;)3=1/7;");
        due("15 as the hundredth", x.run(), 99);
        due("15 quotient by 0", x.stopped(), 2);
        due("15 undo", x.undo(), 4);
        due("15 undo does not change it", x.stopped(), 2);
        type(x, "0=1");
        x.run();
        due("15 a refused run does not", x.stopped(), 2);
        type(x, "0=1;");
        x.ifRun(0, 3, 1);
        due("15 ifRun does not", x.stopped(), 2);
        x.run();
        due("15 the latest run", x.stopped(), 0);
        type(x, "#50(0=1;2=1;)#99(#99())");
        x.run();
        due("15 loops without operations after a hundred", x.stopped(), 0);
        type(x, "0=1;2=0/7;3=1;");
        due("15 operations before the quotient", x.run(), 1);
        due("15 stop in the middle", x.stopped(), 2);
    }

    private static void p16IfRun() {
        StochasticBench x = coarse();
        x.setBits(2);
        x.setValue(0, 4096);
        x.setValue(1, 1024);
        x.operate(0, 3, 0, 0);
        type(x, "2=0+1;2=0+1;");
        long d = x.digest();
        due("16 down", x.ifRun(2, 0, 9), 4096);
        due("16 up", x.ifRun(2, 1, 9), 6144);
        for (int seed = -8; seed < 8; seed++) {
            due("16 stochastic " + seed, x.ifRun(2, 4, seed), drawByDocument(2, seed, 2) < 2 ? 6144 : 4096);
        }
        due("16 another register", x.ifRun(1, 4, 9), 1024);
        due("16 changes nothing", x.digest(), d);
        refused("16 register -1", x, d, x.ifRun(-1, 0, 0), BAD);
        refused("16 register 8", x, d, x.ifRun(8, 0, 0), BAD);
        refused("16 mode -1", x, d, x.ifRun(0, -1, 0), BAD);
        refused("16 mode 5", x, d, x.ifRun(0, 5, 0), BAD);
        type(x, "2=1;3=0/7;2=0;");
        due("16 a run that stops", x.ifRun(2, 0, 0), 1024);
        type(x, "2=");
        d = x.digest();
        refused("16 fault", x, d, x.ifRun(0, 0, 0), STATE);
        refused("16 BAD comes before STATE", x, d, x.ifRun(8, 0, 0), BAD);
    }

    private static void p17EnsembleSum() {
        StochasticBench x = coarse();
        x.setMode(0);
        x.setValue(0, 4096);
        x.setValue(1, 1024);
        type(x, "2=0+1;2=2+1;");
        int[] starts = {0, 77, Integer.MAX_VALUE - 3, -3};
        long d = x.digest();
        for (int start : starts) {
            int sum = 0;
            for (int k = 1; k <= 8; k++) {
                sum += x.ifRun(2, 4, start + k - 1);
                due("17 sum of " + k, x.ensembleSum(2, start, k), sum);
            }
        }
        due("17 changes nothing", x.digest(), d);
        refused("17 register -1", x, d, x.ensembleSum(-1, 0, 1), BAD);
        refused("17 register 8", x, d, x.ensembleSum(8, 0, 1), BAD);
        refused("17 k 0", x, d, x.ensembleSum(0, 0, 0), BAD);
        refused("17 k 9", x, d, x.ensembleSum(0, 0, 9), BAD);
        type(x, "2=");
        d = x.digest();
        refused("17 fault", x, d, x.ensembleSum(0, 0, 1), STATE);
        refused("17 BAD comes before STATE", x, d, x.ensembleSum(0, 0, 9), BAD);
    }

    private static void p18EnsembleSpread() {
        StochasticBench x = coarse();
        x.setMode(0);
        x.setValue(0, 4096);
        x.setValue(1, -1024);
        type(x, "2=1-0;2=2+1;");
        int[] starts = {0, 77, Integer.MAX_VALUE - 3, -3};
        long d = x.digest();
        for (int start : starts) {
            int least = Integer.MAX_VALUE;
            int greatest = Integer.MIN_VALUE;
            for (int k = 1; k <= 8; k++) {
                least = Math.min(least, x.ifRun(2, 4, start + k - 1));
                greatest = Math.max(greatest, x.ifRun(2, 4, start + k - 1));
                due("18 spread of " + k, x.ensembleSpread(2, start, k), greatest - least);
            }
        }
        due("18 a register that stays", x.ensembleSpread(0, 0, 8), 0);
        due("18 changes nothing", x.digest(), d);
        refused("18 register -1", x, d, x.ensembleSpread(-1, 0, 1), BAD);
        refused("18 register 8", x, d, x.ensembleSpread(8, 0, 1), BAD);
        refused("18 k 0", x, d, x.ensembleSpread(0, 0, 0), BAD);
        refused("18 k 9", x, d, x.ensembleSpread(0, 0, 9), BAD);
        type(x, "2=");
        d = x.digest();
        refused("18 fault", x, d, x.ensembleSpread(0, 0, 1), STATE);
        refused("18 BAD comes before STATE", x, d, x.ensembleSpread(9, 0, 1), BAD);
    }

    private static void p19Records() {
        StochasticBench x = new StochasticBench();
        type(x, "#63(1=1;)");
        x.run();
        due("19 records", x.records(), 63);
        x.operate(0, 1, 1, 1);
        due("19 as many as there can be", x.records(), 64);
        x.operate(0, 2, 1, 1);
        due("19 no more", x.records(), 64);
        due("19 the oldest is forgotten", x.numberOf(0), 1);
        due("19 the latest is the last", x.operation(63), 211);
        x.undo();
        due("19 undo brings it back", x.numberOf(0), 0);
        due("19 undo takes the latest away", x.operation(63), 111);
    }

    private static void p20NumberOf() {
        StochasticBench x = new StochasticBench();
        due("20 without records", x.numberOf(0), BAD);
        type(x, "#99(1=1;)");
        x.run();
        x.run();
        for (int i = 0; i < 64; i++) {
            due("20 numberOf " + i, x.numberOf(i), 134 + i);
        }
        due("20 index 64", x.numberOf(64), BAD);
        due("20 index -1", x.numberOf(-1), BAD);
        due("20 least int", x.numberOf(Integer.MIN_VALUE), BAD);
    }

    private static void p21Operation() {
        StochasticBench x = new StochasticBench();
        x.setValue(1, 1024);
        x.operate(0, 7, 6, 5);
        x.operate(5, 2, 3, 1);
        type(x, "0=3;1=2+3;2=3-4;3=4*5;4=+6*7;1=1/2;");
        x.setMode(3);
        x.run();
        int[] due = {765, 5231, 33, 1123, 2234, 3345, 4467};
        for (int i = 0; i < due.length; i++) {
            due("21 operation " + i, x.operation(i), due[i]);
        }
        due("21 index -1", x.operation(-1), BAD);
        due("21 index behind", x.operation(x.records()), BAD);
    }

    private static void p22Result() {
        StochasticBench x = coarse();
        x.setMode(1);
        x.setValue(0, 4096);
        x.setValue(1, 1024);
        x.operate(1, 0, 0, 1);
        x.operate(2, 1, 0, 1);
        due("22 result 0", x.result(0), 6144);
        due("22 result 1", x.result(1), 6144);
        x.setValue(0, 0);
        due("22 stays", x.result(0), 6144);
        due("22 index -1", x.result(-1), BAD);
        due("22 index 2", x.result(2), BAD);
    }

    private static void p23Neighbor() {
        StochasticBench x = coarse();
        x.setValue(0, 4096);
        x.setValue(1, 1024);
        x.operate(1, 2, 0, 1);
        due("23 lower", x.neighbor(0, false), 4096);
        due("23 upper", x.neighbor(0, true), 6144);
        x.setValue(0, -4096);
        x.operate(2, 2, 0, 1);
        due("23 lower of a negative", x.neighbor(1, false), -6144);
        due("23 upper of a negative", x.neighbor(1, true), -4096);
        x.operate(3, 2, 0, 0);
        due("23 lower of an overflow", x.neighbor(2, false), 12288);
        due("23 upper of an overflow", x.neighbor(2, true), 12288);
        x.operate(0, 2, 1, 1);
        due("23 lower of a value", x.neighbor(3, false), 1024);
        due("23 upper of a value", x.neighbor(3, true), 1024);
        x.setValue(3, 8192);
        x.operate(3, 2, 0, 3);
        due("23 lower of a negative overflow", x.neighbor(4, false), -12288);
        due("23 upper of a negative overflow", x.neighbor(4, true), -12288);
        x.setFormat(0, 4, -4, 3);
        due("23 by the format as it was", x.neighbor(1, false), -6144);
        due("23 index -1", x.neighbor(-1, true), BAD);
        due("23 index 5", x.neighbor(5, false), BAD);
    }

    private static void p24DrawOf() {
        for (int bits = 1; bits <= 8; bits++) {
            StochasticBench x = new StochasticBench();
            x.setBits(bits);
            x.setSeed(-12345);
            type(x, "#20(1=1+2;)");
            x.run();
            for (int i = 0; i < 20; i++) {
                due("24 drawOf " + i, x.drawOf(i), drawByDocument(i, -12345, bits));
            }
            x.setMode(2);
            x.operate(0, 0, 0, 0);
            due("24 none without the mode 4", x.drawOf(20), 0);
        }
        StochasticBench x = coarse();
        x.setValue(0, 12288);
        x.setSeed(3);
        x.operate(3, 1, 0, 0);
        due("24 also for an overflow", x.drawOf(0), drawByDocument(0, 3, 8));
        due("24 index -1", x.drawOf(-1), BAD);
        due("24 index 1", x.drawOf(1), BAD);
    }

    private static void p25Flags() {
        StochasticBench x = coarse();
        x.setMode(0);
        x.setValue(0, 4096);
        x.setValue(1, 1024);
        x.operate(1, 0, 0, 1);
        due("25 absorbed", x.flags(0), 2);
        x.operate(0, 0, 0, 0);
        due("25 exact is not absorbed", x.flags(1), 0);
        x.operate(3, 2, 0, 0);
        due("25 overflow", x.flags(2), 1);
        x.operate(3, 2, 0, 0);
        due("25 both", x.flags(3), 3);
        x.setValue(3, -12288);
        x.operate(2, 3, 3, 1);
        due("25 negative and both", x.flags(4), 3);
        x.setValue(0, 2048);
        x.setValue(1, 3072);
        x.operate(5, 4, 0, 1);
        due("25 a quotient may be absorbed", x.flags(5), 2);
        due("25 index -1", x.flags(-1), BAD);
        due("25 index 6", x.flags(6), BAD);
    }

    private static void p26ExactNumerator() {
        StochasticBench x = coarseAndFine(3);
        x.setValue(0, -6144);
        x.setValue(1, 4096);
        x.setValue(4, 1);
        x.setValue(5, 3);
        x.operate(5, 2, 0, 1);
        fraction("26 -6/4", x, 0, -3, 2);
        x.operate(5, 2, 1, 0);
        fraction("26 4/-6", x, 1, -2, 3);
        x.operate(5, 2, 0, 0);
        fraction("26 -6/-6", x, 2, 1, 1);
        x.operate(3, 4, 4, 5);
        fraction("26 tiny product", x, 3, 3, 1 << 20);
        due("26 it became 0", x.value(4), 0);
        x.operate(3, 2, 4, 0);
        fraction("26 zero", x, 4, 0, 1);
        x.operate(5, 2, 4, 0);
        fraction("26 zero quotient", x, 5, 0, 1);
        x.operate(4, 5, 5, 5);
        fraction("26 fused", x, 6, 9 + 3 * 1024, 1 << 20);
        due("26 it rounds to", x.value(5), 3);
        x.operate(0, 2, 5, 5);
        fraction("26 copy", x, 7, 3, 1024);
        x.operate(2, 2, 5, 1);
        fraction("26 difference", x, 8, 3 - 4096, 1024);
        x.setFormat(2, 10, 0, 0);
        x.setRegister(6, 2);
        x.setValue(6, 1023 * 1024);
        x.operate(3, 7, 6, 6);
        fraction("26 great product", x, 9, 1023 * 1023, 1);
        x.operate(5, 7, 6, 5);
        fraction("26 great quotient", x, 10, 341 * 1024, 1);
        x.operate(5, 7, 5, 6);
        fraction("26 small quotient", x, 11, 1, 341 * 1024);
        x.setValue(4, 1);
        x.setValue(5, 2);
        x.operate(3, 7, 4, 5);
        fraction("26 to be shortened by 2 alone", x, 12, 1, 1 << 19);
        due("26 index -1", x.exactNumerator(-1), BAD);
        due("26 index 13", x.exactNumerator(13), BAD);
        due("27 index -1", x.exactDenominator(-1), BAD);
        due("27 index 13", x.exactDenominator(13), BAD);
    }

    private static void fraction(String what, StochasticBench x, int i, long numerator, long denominator) {
        due(what + " numerator", x.exactNumerator(i), numerator);
        due(what + " denominator", x.exactDenominator(i), denominator);
    }

    private static void p28Replay() {
        StochasticBench x = coarse();
        x.setBits(2);
        x.setValue(0, 4096);
        x.setValue(1, 1024);
        x.operate(0, 3, 0, 0);
        x.operate(1, 2, 0, 1);
        x.operate(3, 2, 0, 0);
        x.setFormat(0, 1, 0, 0);
        x.setBits(8);
        x.setMode(0);
        long d = x.digest();
        int[] due = {4096, 6144, 4096, 4096};
        for (int mode = 0; mode < 4; mode++) {
            due("28 replay by mode " + mode, x.replay(1, mode, 5), due[mode]);
            due("28 overflow by mode " + mode, x.replay(2, mode, 5), 12288);
        }
        for (int seed = -9; seed < 9; seed++) {
            due("28 replay with seed " + seed, x.replay(1, 4, seed), drawByDocument(1, seed, 2) < 2 ? 6144 : 4096);
        }
        due("28 changes nothing", x.digest(), d);
        due("28 index -1", x.replay(-1, 0, 0), BAD);
        due("28 index 3", x.replay(3, 0, 0), BAD);
        due("28 mode -1", x.replay(0, -1, 0), BAD);
        due("28 mode 5", x.replay(0, 5, 0), BAD);
    }

    /** Records: 0 is 1/4 with one bit, 1 the same with eight, 2 is 1/3 with two, 3 an overflow, 4 by the mode 1. */
    private static StochasticBench withMeans() {
        StochasticBench x = coarseAndFine(4);
        x.setBits(1);
        x.setValue(0, 1024);
        x.setValue(1, 3072);
        x.setValue(4, 256);
        x.operate(0, 2, 4, 4);
        x.setBits(8);
        x.operate(0, 2, 4, 4);
        x.setBits(2);
        x.operate(5, 2, 0, 1);
        x.setValue(2, 8192);
        x.operate(3, 3, 2, 2);
        x.setMode(1);
        x.operate(0, 2, 4, 4);
        return x;
    }

    private static void p29Mean() {
        StochasticBench x = withMeans();
        long[] due = {1 << 17, 1 << 16, 1 << 17, 12L << 18, 1 << 18};
        for (int i = 0; i < due.length; i++) {
            due("29 mean " + i, x.mean(i), due[i]);
        }
        due("29 index -1", x.mean(-1), BAD);
        due("29 index 5", x.mean(5), BAD);
    }

    private static void p30Bias() {
        StochasticBench x = withMeans();
        long[] numerators = {1, 0, 1, -52, 3};
        long[] denominators = {4, 1, 6, 1, 4};
        for (int i = 0; i < numerators.length; i++) {
            due("30 biasNumerator " + i, x.biasNumerator(i), numerators[i]);
            due("31 biasDenominator " + i, x.biasDenominator(i), denominators[i]);
        }
        due("30 index -1", x.biasNumerator(-1), BAD);
        due("30 index 5", x.biasNumerator(5), BAD);
        due("31 index -1", x.biasDenominator(-1), BAD);
        due("31 index 5", x.biasDenominator(5), BAD);
    }

    private static void p32Variance() {
        StochasticBench x = withMeans();
        long[] due = {1L << 34, 3L << 32, 1L << 34, 0, 0};
        for (int i = 0; i < due.length; i++) {
            due("32 variance " + i, x.variance(i), due[i]);
        }
        due("32 index -1", x.variance(-1), BAD);
        due("32 index 5", x.variance(5), BAD);
        x = new StochasticBench();
        x.setFormat(0, 1, 0, 9);
        x.setFormat(1, 3, 0, 7);
        x.setRegister(1, 1);
        x.setValue(1, 384 << 10);
        x.operate(0, 0, 1, 1);
        due("32 the widest gap", x.variance(0), 1L << 50);
    }

    private static void p33Account() {
        StochasticBench x = withMeans();
        long errors = (x.result(0) + x.result(1) + x.result(4) - 3 * 256L << 10) + (12 - 64L << 20);
        // Whether the first ones were absorbed depends on their draws.
        long absorbed = 0;
        for (int i = 0; i < x.records(); i++) {
            absorbed += x.flags(i) / 2;
        }
        long[] due = {4, errors, (1L << 18) - (52L << 20) + (3L << 18), (1L << 34) + (3L << 32), 1, absorbed, 1};
        for (int what = 0; what < 7; what++) {
            due("33 account " + what, x.account(what), due[what]);
        }
        x.setValue(2, 1024);
        x.operate(5, 2, 0, 1);
        x.operate(0, 2, 4, 4);
        due("33 absorbed ones, quotients included", x.account(5), absorbed + 2);
        due("33 quotients", x.account(6), 2);
        due("33 no quotients", x.account(0), 5);
        x.setMode(0);
        x.setValue(5, 1);
        x.operate(5, 3, 2, 5);
        due("33 overflows, quotients included", x.account(4), 2);
        due("33 sums without quotients", x.account(2), due[2] + (3L << 18));
        due("33 what -1", x.account(-1), BAD);
        due("33 what 7", x.account(7), BAD);
    }

    private static void p34ClearAccount() {
        StochasticBench x = withMeans();
        int states = x.told(4);
        int records = x.records();
        due("34 clearAccount", x.clearAccount(), 4);
        for (int what = 0; what < 7; what++) {
            due("34 account " + what, x.account(what), 0);
        }
        due("34 is a change", x.told(4), Math.min(6, states + 1));
        due("34 the records stay", x.records(), records);
        due("34 again", x.clearAccount(), 0);
        x.undo();
        x.undo();
        due("34 undo brings it back", x.account(0), 4);
        due("34 all of it", x.account(3), (1L << 34) + (3L << 32));
    }

    private static void p35IsValue() {
        StochasticBench x = coarse();
        int[] values = {0, 1024, 2048, 3072, 4096, 6144, 8192, 12288};
        for (int v : values) {
            due("35 isValue " + v, x.isValue(0, v), 1);
            due("35 isValue " + -v, x.isValue(0, -v), 1);
            due("35 above " + v, x.isValue(0, v + 1), 0);
            due("35 below " + -v, x.isValue(0, -v - 1), 0);
        }
        due("35 5", x.isValue(0, 5120), 0);
        due("35 16", x.isValue(0, 16384), 0);
        due("35 1/2", x.isValue(0, 512), 0);
        due("35 another format", x.isValue(1, 512), 1);
        due("35 greatest", x.isValue(0, 1048575), 0);
        due("35 least", x.isValue(0, -1048575), 0);
        due("35 above all", x.isValue(0, 1048576), BAD);
        due("35 below all", x.isValue(0, -1048576), BAD);
        due("35 format -1", x.isValue(-1, 0), BAD);
        due("35 format 4", x.isValue(4, 0), BAD);
    }

    private static void p36Next() {
        StochasticBench x = coarse();
        int[] values = {-12288, -8192, -6144, -4096, -3072, -2048, -1024, 0, 1024, 2048, 3072, 4096, 6144, 8192, 12288};
        for (int i = 0; i + 1 < values.length; i++) {
            due("36 above " + values[i], x.next(0, values[i], false), values[i + 1]);
            due("36 above a bit more", x.next(0, values[i] + 1, false), values[i + 1]);
            due("36 above a bit less", x.next(0, values[i + 1] - 1, false), values[i + 1]);
            due("36 below " + values[i + 1], x.next(0, values[i + 1], true), values[i]);
            due("36 below a bit less", x.next(0, values[i + 1] - 1, true), values[i]);
            due("36 below a bit more", x.next(0, values[i] + 1, true), values[i]);
        }
        due("36 above the greatest", x.next(0, 12288, false), NONE);
        due("36 below the least", x.next(0, -12288, true), NONE);
        due("36 from far below", x.next(0, -1048575, false), -12288);
        due("36 from far above", x.next(0, 1048575, true), 12288);
        due("36 far above", x.next(0, 1048575, false), NONE);
        due("36 far below", x.next(0, -1048575, true), NONE);
        x.setFormat(1, 10, -10, 0);
        due("36 the greatest there is", x.next(1, 1047551, false), 1047552);
        due("36 format -1", x.next(-1, 0, true), BAD);
        due("36 format 4", x.next(4, 0, true), BAD);
        due("36 value above", x.next(0, 1048576, true), BAD);
        due("36 value below", x.next(0, -1048576, false), BAD);
    }

    private static void p37CountValues() {
        StochasticBench x = coarse();
        due("37 countValues", x.countValues(0), 15);
        due("37 at first", x.countValues(1), 2 * (15 + 7 * 8) + 1);
        x.setFormat(3, 1, 0, 0);
        due("37 fewest", x.countValues(3), 3);
        x.setFormat(3, 10, -10, 0);
        due("37 longest", x.countValues(3), 2 * (1023 + 10 * 512) + 1);
        due("37 format -1", x.countValues(-1), BAD);
        due("37 format 4", x.countValues(4), BAD);
    }

    private static void p38Between() {
        StochasticBench x = coarse();
        due("38 all", x.between(0, -1048575, 1048575), 15);
        due("38 both ends count", x.between(0, 1024, 4096), 4);
        due("38 one", x.between(0, 4096, 4096), 1);
        due("38 none", x.between(0, 4097, 6143), 0);
        due("38 none at a point", x.between(0, 5000, 5000), 0);
        due("38 negatives", x.between(0, -6144, -1024), 5);
        due("38 across 0", x.between(0, -1024, 2048), 4);
        due("38 only 0", x.between(0, -1023, 1023), 1);
        due("38 above all", x.between(0, 12289, 1048575), 0);
        due("38 below all", x.between(0, -1048575, -12289), 0);
        due("38 the greatest", x.between(0, 12288, 1048575), 1);
        due("38 the least", x.between(0, -1048575, -12288), 1);
        due("38 wrong order", x.between(0, 1, 0), BAD);
        due("38 v below", x.between(0, -1048576, 0), BAD);
        due("38 w above", x.between(0, 0, 1048576), BAD);
        due("38 v above", x.between(0, 1048576, 1048576), BAD);
        due("38 format -1", x.between(-1, 0, 0), BAD);
        due("38 format 4", x.between(4, 0, 0), BAD);
    }

    private static void p39Contains() {
        StochasticBench x = coarse();
        due("39 wider and longer", x.contains(1, 0), 1);
        due("39 the other way", x.contains(0, 1), 0);
        due("39 itself", x.contains(0, 0), 1);
        due("39 equal one", x.contains(1, 2), 1);
        x.setFormat(1, 3, 0, 1);
        due("39 greater ones by a longer number", x.contains(1, 0), 1);
        x.setFormat(1, 3, 0, 0);
        due("39 it is not long enough", x.contains(1, 0), 0);
        x.setFormat(1, 4, 0, 0);
        due("39 one exponent that does for all", x.contains(1, 0), 1);
        due("39 but not the other way", x.contains(0, 1), 0);
        x.setFormat(1, 2, -1, 2);
        due("39 a smaller least exponent", x.contains(0, 1), 0);
        x.setFormat(1, 2, 0, 3);
        due("39 a greater greatest exponent", x.contains(0, 1), 0);
        x.setFormat(1, 1, 0, 3);
        due("39 a power of two within reach", x.contains(0, 1), 1);
        x.setFormat(1, 1, 0, 4);
        due("39 a power of two out of reach", x.contains(0, 1), 0);
        due("39 f -1", x.contains(-1, 0), BAD);
        due("39 f 4", x.contains(4, 0), BAD);
        due("39 g -1", x.contains(0, -1), BAD);
        due("39 g 4", x.contains(0, 4), BAD);
    }

    private static void p40Undo() {
        StochasticBench x = new StochasticBench();
        type(x, "#80(2=2+1;3=+1*2;)");
        long[] digests = new long[12];
        for (int i = 0; i < 12; i++) {
            digests[i] = withoutStates(x);
            switch (i % 9) {
                case 0: x.setFormat(1, 3, -2, 2); break;
                case 1: x.setRegister(1, 1); break;
                case 2: x.setValue(1, 1024); break;
                case 3: x.setMode(i > 8 ? 4 : 1); break;
                case 4: x.setBits(3); break;
                case 5: x.setSeed(99); break;
                case 6: x.operate(1, 2, 1, 1); break;
                case 7: x.run(); break;
                default: x.clearAccount(); break;
            }
            due("40 states " + i, x.told(4), Math.min(6, i + 1));
        }
        for (int i = 11; i >= 6; i--) {
            due("40 undo " + i, x.undo(), i - 6);
            // The latest run stays the latest run.
            due("40 state " + i, withoutStates(x), digests[i] + (i <= 7 ? 1 : 0) * stopPart(x));
        }
        due("40 no more", x.undo(), STATE);
        due("40 and it changes nothing", x.told(3), 0);
        due("40 the text stays", x.told(5), 18);
        x.setMode(2);
        due("40 a change after all", x.undo(), 0);
        due("40 the text may change", x.clear(), 18);
        due("40 undo does not bring it back", x.undo(), STATE);
        due("40 it is empty", x.told(5), 0);
    }

    /** Each kind of change undone by itself. */
    private static void p40UndoOfEach() {
        for (int i = 0; i < 9; i++) {
            StochasticBench x = withMeans();
            x.setMode(4);
            type(x, "#2(2=2+1;3=+1*2;)");
            long before = withoutStates(x);
            switch (i) {
                case 0: x.setFormat(0, 3, -2, 1); break;
                case 1: x.setRegister(0, 3); break;
                case 2: x.setValue(0, 8192); break;
                case 3: x.setMode(0); break;
                case 4: x.setBits(5); break;
                case 5: x.setSeed(99); break;
                case 6: x.operate(1, 7, 0, 1); break;
                case 7: x.run(); break;
                default: x.clearAccount(); break;
            }
            due("40 something changed by " + i, withoutStates(x) == before ? 1 : 0, 0);
            due("40 undo of the change " + i, x.undo(), 5);
            due("40 all is as before the change " + i, withoutStates(x), before);
        }
    }

    /** What stopped() adds to the hash of all that may be undone. */
    private static long stopPart(StochasticBench x) {
        return x.stopped() * 1000003L;
    }

    private static long withoutStates(StochasticBench x) {
        long h = x.stopped() * 1000003L;
        long g = 7;
        for (int what = 0; what < 18; what++) {
            g = 31 * g + (what == 4 ? 0 : x.told(what));
        }
        for (int r = 0; r < 8; r++) {
            g = 31 * (31 * g + x.formatOf(r)) + x.value(r);
        }
        for (int what = 0; what < 7; what++) {
            g = 31 * g + x.account(what);
        }
        for (int i = 0; i < x.records(); i++) {
            g = 31 * g + x.numberOf(i);
            g = 31 * g + x.operation(i);
            g = 31 * g + x.result(i);
            g = 31 * g + x.neighbor(i, false);
            g = 31 * g + x.neighbor(i, true);
            g = 31 * g + x.drawOf(i);
            g = 31 * g + x.flags(i);
            g = 31 * g + x.exactNumerator(i);
            g = 31 * g + x.exactDenominator(i);
            g = 31 * g + x.mean(i);
            g = 31 * g + x.variance(i);
        }
        return g + h;
    }

    private static void p41Told() {
        StochasticBench x = new StochasticBench();
        x.setFormat(0, 1, -1, 5);
        x.setFormat(1, 2, -2, 6);
        x.setFormat(2, 3, -3, 7);
        x.setFormat(3, 5, -5, 1);
        x.setMode(2);
        x.setBits(3);
        x.setSeed(-44);
        x.operate(0, 0, 0, 0);
        x.operate(0, 0, 0, 0);
        type(x, "abc");
        x.undo();
        int[] due = {2, 3, -44, 1, 5, 3, 1, 2, 3, 5, -1, -2, -3, -5, 5, 6, 7, 1};
        for (int what = 0; what < 18; what++) {
            due("41 told " + what, x.told(what), due[what]);
        }
        due("41 what -1", x.told(-1), BAD);
        due("41 what 18", x.told(18), BAD);
    }

    private static void p42Digest() {
        StochasticBench x = new StochasticBench();
        due("42 of a new object", x.digest(), digestByDocument(x));
        x = withMeans();
        type(x, "#80(2=2+1;3=+1*2;)5=5/6;");
        due("42 with some records", x.digest(), digestByDocument(x));
        x.run();
        due("42 with all records", x.digest(), digestByDocument(x));
        x.undo();
        due("42 after undo", x.digest(), digestByDocument(x));
        due("42 twice", x.digest(), x.digest());
    }

    private static long digestByDocument(StochasticBench x) {
        long h = 18432;
        for (int what = 0; what <= 17; what++) {
            h = 31 * h + x.told(what);
        }
        for (int r = 0; r < 8; r++) {
            h = 31 * h + x.formatOf(r);
            h = 31 * h + x.value(r);
        }
        for (int what = 0; what <= 6; what++) {
            h = 31 * h + x.account(what);
        }
        h = 31 * h + x.stopped();
        for (int i = 0; i < x.records(); i++) {
            h = 31 * h + x.numberOf(i);
            h = 31 * h + x.operation(i);
            h = 31 * h + x.result(i);
            h = 31 * h + x.neighbor(i, false);
            h = 31 * h + x.neighbor(i, true);
            h = 31 * h + x.drawOf(i);
            h = 31 * h + x.flags(i);
        }
        return h;
    }
}
