import java.io.IOException;

/** The edges of the text buffer, of the grammar and of runs. */
public final class BoundariesOfProgramsTest {
    private static final int STATE = Checks.STATE, FULL = Checks.FULL, NONE = Checks.NONE;
    private static final String REGISTERS = "01234567";
    private static final String DIGITS = "0123456789";

    private static Checks check;

    public static void main(String[] args) throws IOException {
        check = new Checks("BoundariesOfProgramsTest");
        theBuffer();
        fullPrograms();
        clearing();
        blanks();
        everyByteAtEachPlace();
        terms();
        counts();
        nesting();
        earlyEnds();
        firstFaults();
        runsOfNothing();
        runsUpToTheLimit();
        quotientsByZero();
        limitAndQuotientByZero();
        whatStays();
        faultyRuns();
        stopped();
        ifRun();
        numbersOfIfRun();
        ensembles();
        ensemblesThatWrapAround();
        check.finish();
    }

    private static int fault(String text) {
        return Checks.withText(text).fault();
    }

    private static int run(String text) {
        return Checks.withText(text).run();
    }

    private static void theBuffer() {
        check.on("The text buffer has at most 80 bytes.");
        StochasticBench x = new StochasticBench();
        for (int i = 1; i <= 80; i++) {
            check.due("byte " + i, x.type(i % 128), i);
            check.due("told after the byte " + i, x.told(5), i);
        }
        check.due("byte 81", x.type(32), FULL);
        check.due("told after it", x.told(5), 80);
        check.on("Returns how many bytes it has then; BAD if c is out of range; FULL if it has 80.");
        check.due("once more", x.type(0), FULL);
        check.due("clear", x.clear(), 80);
        check.due("the first one then", x.type(127), 1);
    }

    private static void fullPrograms() {
        check.on("The text buffer has at most 80 bytes.");
        String full = "1=1;".repeat(20);
        check.due("80 bytes without a fault", fault(full), NONE);
        check.due("a run of them", run(full), 20);
        check.due("40 loops' ends", run("#1()".repeat(20)), 0);
        check.due("many steps", run("#2(1=1;)".repeat(10)), 20);
        check.due("the last byte of 80 is wrong", fault("1=1;".repeat(19) + "1=1,"), 79);
        check.due("80 bytes that end too early", fault("1=1;".repeat(19) + "1=1 "), 80);
        check.due("79 bytes that end too early", fault("1=1;".repeat(19) + "1=1"), 79);
        check.due("80 blanks", fault(" ".repeat(80)), NONE);
        StochasticBench x = Checks.withText(full);
        x.type(')');
        check.due("a byte that was too many is not there", x.fault(), NONE);
        x = Checks.withText("1=1;".repeat(19) + "1=1 ");
        x.type(';');
        check.due("not even if it were wanted", x.fault(), 80);
    }

    private static void clearing() {
        check.on("Returns how many bytes it had.");
        for (int bytes : new int[] {0, 1, 79, 80}) {
            StochasticBench x = Checks.withText("x".repeat(bytes));
            check.due("clear of " + bytes, x.clear(), bytes);
            check.on("Empties the text buffer.");
            check.due("told", x.told(5), 0);
            check.due("nothing is left", x.fault(), NONE);
            check.on("Returns how many bytes it had.");
            check.due("clear again", x.clear(), 0);
            check.on("Empties the text buffer.");
            x.type(' ');
            check.due("what was behind does not come back", x.fault(), NONE);
        }
    }

    private static void blanks() {
        check.on("blanks, byte 32, may stand between any two of the symbols, and at the beginning and the end");
        String text = "#12(0=1+2;3=+4*5;#9(6=7;))1=2/3;";
        check.due("without blanks", fault(text), NONE);
        for (int i = 0; i <= text.length(); i++) {
            String before = text.substring(0, i);
            String after = text.substring(i);
            boolean isAfterSign = before.endsWith("#");
            boolean isInCount = i == 2;
            int due = isAfterSign ? i : isInCount ? 3 : NONE;
            check.due("a blank at " + i, fault(before + " " + after), due);
            check.due("two blanks at " + i, fault(before + "  " + after), isInCount ? 4 : due);
            for (int c : new int[] {0, 9, 10, 13, 31, 33, 127}) {
                check.due("the byte " + c + " at " + i, fault(before + (char) c + after), i);
            }
        }
        check.due("blanks everywhere", fault(" #12 ( 0 = 1 + 2 ; 3 = + 4 * 5 ; # 9"), 34);
        check.due("blanks in all places where they may stand", fault(" #12 ( 0 = 1 + 2 ; 3 = + 4 * 5 ; #9 ( 6 = 7 ; ) ) 1 = 2 / 3 ; "), NONE);
        check.due("they do not matter in a run", run(" #12 ( 0 = 1 + 2 ; 3 = + 4 * 5 ; #9 ( 6 = 7 ; ) ) 1 = 2 ; "), 100);
    }

    /** Behind the text each byte of the allowed ones may stand, and each other one is the fault. */
    private static void mayFollow(String text, String allowed) {
        for (int c = 0; c <= 127; c++) {
            int got = fault(text + (char) c);
            String what = "behind '" + text + "' the byte " + c;
            if (allowed.indexOf(c) >= 0) {
                check.must(what, got == NONE || got == text.length() + 1);
            } else {
                check.due(what, got, text.length());
            }
        }
    }

    private static void everyByteAtEachPlace() {
        check.on("A program has a fault if it is not written like this; its position is the index of the first byte that cannot stand there, read from left to right (for a fourth parenthesis within three others, this parenthesis), or the length of the text if it ends too early.");
        String statement = " #" + REGISTERS;
        mayFollow("", statement);
        mayFollow(" ", statement);
        mayFollow("1=1;", statement);
        mayFollow("#1()", statement);
        mayFollow("#1(", statement + ")");
        mayFollow("#1( ", statement + ")");
        mayFollow("#1(1=1;", statement + ")");
        mayFollow("#1(#1()", statement + ")");
        mayFollow("#1(#1()) ", statement);
        mayFollow("#1(#1(#1(", statement + ")");
        mayFollow("#1(#1(#1()", statement + ")");
        mayFollow("0", " =");
        mayFollow("7 ", " =");
        mayFollow("1=", " +" + REGISTERS);
        mayFollow("1= ", " +" + REGISTERS);
        mayFollow("1=2", " +-*/;");
        mayFollow("1=2 ", " +-*/;");
        for (String sign : new String[] {"+", "-", "*", "/"}) {
            mayFollow("1=2" + sign, " " + REGISTERS);
            mayFollow("1=2" + sign + " ", " " + REGISTERS);
            mayFollow("1=2" + sign + "3", " ;");
            mayFollow("1=2" + sign + "3 ", " ;");
        }
        mayFollow("1=+", " " + REGISTERS);
        mayFollow("1=+ ", " " + REGISTERS);
        mayFollow("1=+2", " *");
        mayFollow("1=+2 ", " *");
        mayFollow("1=+2*", " " + REGISTERS);
        mayFollow("1=+2* ", " " + REGISTERS);
        mayFollow("1=+2*3", " ;");
        mayFollow("1=+2*3 ", " ;");
        mayFollow("#", DIGITS);
        mayFollow("#0", " (" + DIGITS);
        mayFollow("#9", " (" + DIGITS);
        mayFollow("#0 ", " (");
        mayFollow("#00", " (");
        mayFollow("#99", " (");
        mayFollow("#99 ", " (");
        mayFollow("#1(#1(#1(#", DIGITS);
        mayFollow("#1(#1(#1(#1", " " + DIGITS);
        mayFollow("#1(#1(#1(#1 ", " ");
        mayFollow("#1(#1(#1(#12", " ");
        mayFollow("#1(#1(#1()#1", " (" + DIGITS);
        mayFollow("#1(#1(#1())#1", " (" + DIGITS);
    }

    private static void terms() {
        check.on("The terms are, in this order, the operations copy, sum, difference, product, fused and quotient, with a and b as the first and the second register.");
        String[] terms = {"6", "6+5", "6-5", "6*5", "+6*5", "6/5"};
        int[] operations = {766, 1765, 2765, 3765, 4765, 5765};
        for (int kind = 0; kind < 6; kind++) {
            StochasticBench x = Checks.withText("7=" + terms[kind] + ";");
            x.setValue(5, 1024);
            check.due("run of " + terms[kind], x.run(), 1);
            check.due("operation of " + terms[kind], x.operation(0), operations[kind]);
        }
        check.on("A digit is 0 to 7 and stands for a register; the digit before = is the register t.");
        for (int r = 0; r <= 7; r++) {
            StochasticBench x = Checks.withText(r + "=" + (7 - r) + "+" + r + ";");
            x.run();
            check.due("register " + r, x.operation(0), 1000 + 100 * r + 10 * (7 - r) + r);
        }
        check.due("0 in all places", run("0=0;"), 1);
        check.due("0 in all places of a loop", run("#99(0=0;)"), 99);
        check.due("0 in all places, and more behind it", run("0=0;0=0+0;0=0;"), 3);
        check.due("8 as t", fault("8=1;"), 0);
        check.due("8 as a", fault("1=8;"), 2);
        check.due("8 as b", fault("1=1+8;"), 4);
        check.due("9 as a of a fused one", fault("1=+9*1;"), 3);
        check.due("9 as b of a fused one", fault("1=+1*9;"), 5);
    }

    private static void counts() {
        check.on("A count is # directly followed by one or two decimal digits (without blanks in it), a number from 0 to 99: the statements in the parentheses are carried out so often, one after the other.");
        for (int count = 0; count <= 99; count++) {
            check.due("count " + count, run("#" + count + "(1=1;)"), count);
            if (count <= 9) {
                check.due("count 0" + count, run("#0" + count + "(1=1;)"), count);
            }
        }
        check.due("no digit", fault("#(1=1;)"), 1);
        check.due("three digits", fault("#100(1=1;)"), 3);
        check.due("three digits, the first 0", fault("#001(1=1;)"), 3);
        check.due("a blank before the digits", fault("# 1(1=1;)"), 1);
        check.due("a blank between the digits", fault("#1 1(1=1;)"), 3);
        check.due("a sign", fault("#-1(1=1;)"), 1);
        StochasticBench x = Checks.withText("#2(1=2;3=4;)5=6;");
        x.run();
        int[] order = {122, 344, 122, 344, 566};
        for (int i = 0; i < order.length; i++) {
            check.due("one after the other, " + i, x.operation(i), order[i]);
        }
    }

    private static void nesting() {
        check.on("Parentheses can be nested at most 3 deep.");
        check.due("one deep", run("#2(1=1;)"), 2);
        check.due("two deep", run("#2(#3(1=1;))"), 6);
        check.due("three deep", run("#2(#3(#4(1=1;)))"), 24);
        check.due("four deep", fault("#2(#3(#4(#1(1=1;))))"), 11);
        check.due("four deep, counts of two digits", fault("#02(#03(#04(#01(1=1;))))"), 15);
        check.due("four deep with blanks", fault(" #2 ( #3 ( #4 ( #1 ( 1=1;))))"), 19);
        check.due("four deep, no rounds", fault("#0(#0(#0(#0())))"), 11);
        check.due("four deep, behind another one", fault("#2(#2(#2()#2(#2())))"), 15);
        check.due("side by side, three deep", run("#2(#2(#2(1=1;)#2(1=1;))#2(#2(1=1;)))"), 24);
        check.due("three deep, again and again", run("#1(#1(#1(1=1;)))".repeat(5)), 5);
        check.due("one too many closed", fault("#1(#1(#1())))"), 12);
        check.due("closed before one is open", fault(")#1("), 0);
    }

    private static void earlyEnds() {
        check.on("or the length of the text if it ends too early.");
        String text = "1=2;#12 (3=+4*5; #1(6=7/0;) ) 0=1-2;";
        // The program may end where a statement ends that is in no loop, and in the blanks behind it.
        for (int length = 0; length <= text.length(); length++) {
            String start = text.substring(0, length);
            boolean isWhole = length == 0 || length == 4 || length == 29 || length == 30 || length == text.length();
            check.due("the text '" + start + "'", fault(start), isWhole ? NONE : length);
        }
        check.due("blanks at the end count, too", fault("1=2   "), 6);
        check.due("a loop that is not closed, with blanks", fault("#1(1=1;   "), 10);
    }

    private static void firstFaults() {
        check.on("Returns the position of its fault; NONE if it has none.");
        check.due("the empty text", fault(""), NONE);
        check.due("the first of two", fault("1=9;8=1;"), 2);
        check.due("a fault before an early end", fault("1=1;x#1("), 4);
        check.due("a fault before a fourth parenthesis", fault("#1(#1(#1(8#1("), 9);
        check.due("a fourth parenthesis before a fault", fault("#1(#1(#1(#1(8"), 11);
        check.due("a fault at the very beginning", fault("x"), 0);
        check.due("a fault behind a whole program", fault("1=1;x"), 4);
        check.due("capital and small letters", fault("1=1;A"), 4);
        check.on("Reads the text buffer as a program.");
        StochasticBench x = new StochasticBench();
        String[] texts = {"#1(#1(#1(", "#1(#1(#1(", "1=1;", "#1(#1(#1(1=1;)))", "1=+", "2=2;", "1=2*", "2=+2*2;", "#12", "(", "#1(#1(#1())))", ")", ""};
        int[] faults = {9, 9, NONE, NONE, 3, NONE, 4, NONE, 3, 0, 12, 0, NONE};
        for (int i = 0; i < texts.length; i++) {
            Checks.type(x, texts[i]);
            check.due("after other texts, '" + texts[i] + "'", x.fault(), faults[i]);
            check.due("once more, '" + texts[i] + "'", x.fault(), faults[i]);
        }
    }

    private static void runsOfNothing() {
        check.on("Returns the number of operations that were carried out; STATE if the program has a fault.");
        String[] texts = {"", " ", "#0()", "#99()", "#0(1=1;)", "#00(1=1;#9(1=1;))", "#99(#99(#99()))",
            "#99(#99(#0(1=1;)#99()))", "#99(#99(#99()#99()#99()))#99(#99(#99()#99()#99()))", "#5(#0(#99(1=1/1;)))"};
        for (String text : texts) {
            StochasticBench x = Checks.withText(text);
            check.due("run of '" + text + "'", x.run(), 0);
            check.due("stopped of '" + text + "'", x.stopped(), 0);
            check.due("'" + text + "' is a change", x.told(4), 1);
            check.due("no record of '" + text + "'", x.records(), 0);
        }
        check.due("an operation behind such loops", run("#99(#99(#99()#99()))1=1;"), 1);
        check.due("an operation before such loops", run("1=1;#99(#99(#99()#99()))"), 1);
        check.due("an operation among such loops", run("#3(#99(#99())1=1;#99(#99()))"), 3);
        check.due("a loop of none in a loop", run("#3(1=1;#0(2=2;)3=3;)"), 6);
    }

    private static void upTo(String text, int operations, int stopped) {
        StochasticBench x = Checks.withText(text);
        check.due("run of " + text, x.run(), operations);
        check.due("stopped of " + text, x.stopped(), stopped);
        check.due("next number of " + text, x.told(3), operations);
        check.due("account of " + text, x.account(0), operations);
    }

    private static void runsUpToTheLimit() {
        check.on("A run stops before an operation that would be the 101st one of the run, and before a quotient by 0; what was done before stays.");
        upTo("#99(1=1;)", 99, 0);
        upTo("#99(1=1;)1=1;", 100, 0);
        upTo("#99(1=1;)1=1;1=1;", 100, 1);
        upTo("#10(#10(1=1;))", 100, 0);
        upTo("#10(#10(1=1;))1=1;", 100, 1);
        upTo("#5(#5(#4(1=1;)))", 100, 0);
        upTo("#5(#5(#5(1=1;)))", 100, 1);
        upTo("#99(#99(#99(1=1;)))", 100, 1);
        upTo("#50(1=1;2=2;)", 100, 0);
        upTo("#51(1=1;2=2;)", 100, 1);
        upTo("#50(1=1;2=2;)#99()", 100, 0);
        upTo("#50(1=1;2=2;)#0(1=1;)", 100, 0);
        upTo("#50(1=1;2=2;)#99(#99(#99()#0(1=1;)))", 100, 0);
        upTo("#50(1=1;2=2;)#99(#99(#99()))1=1;", 100, 1);
        StochasticBench x = Checks.withText("#99(1=1;)1=1;");
        x.run();
        x.run();
        check.due("each run has its own hundred", x.stopped(), 0);
        check.due("two hundred in all", x.told(3), 200);
        x = Checks.withText("1=1;");
        for (int i = 0; i < 150; i++) {
            x.operate(0, 1, 1, 1);
        }
        check.due("operate() does not count for a run", x.run(), 1);
    }

    private static void quotientsByZero() {
        check.on("2 if it stopped before a quotient by 0.");
        upTo("1=1/1;", 0, 2);
        upTo("2=2;1=1/1;3=3;", 1, 2);
        upTo("#3(2=2;#2(3=3;)1=1/1;)", 3, 2);
        upTo("#0(1=1/1;)2=2;", 1, 0);
        upTo("#99(1=1;)1=1/0;", 99, 2);
        StochasticBench x = Checks.withText("1=1-2;3=3/1;");
        x.setValue(1, 2048);
        x.setValue(2, 1024);
        check.due("a divisor that is not 0", x.run(), 2);
        check.due("it goes on", x.stopped(), 0);
        check.due("a divisor that has become 0", x.run(), 1);
        check.due("it stops", x.stopped(), 2);
        x = Checks.withText("#9(3=3/1;1=1-2;)");
        x.setValue(1, 4096);
        x.setValue(2, 1024);
        check.due("a divisor that becomes 0 in a loop", x.run(), 8);
        check.due("it stops there", x.stopped(), 2);
    }

    private static void limitAndQuotientByZero() {
        check.on("1 if it stopped before the 101st operation (also if this is a quotient by 0);");
        upTo("#99(1=1;)1=1;1=1/0;", 100, 1);
        upTo("#50(1=1;2=2;)1=1/0;", 100, 1);
        upTo("#50(1=1;2=2;)1=1;", 100, 1);
    }

    private static void whatStays() {
        check.on("what was done before stays.");
        StochasticBench x = Checks.withText("2=1;3=1+1;4=1/0;5=1;");
        x.setMode(3);
        x.setValue(1, 1024);
        x.run();
        int[] values = {0, 1024, 1024, 2048, 0, 0, 0, 0};
        for (int r = 0; r <= 7; r++) {
            check.due("register " + r, x.value(r), values[r]);
        }
        check.due("records", x.records(), 2);
        check.due("account", x.account(0), 2);
        check.due("the run is one change", x.undo(), 2);
        check.due("and is undone as one", x.value(3), 0);
        x = Checks.withText("#99(2=1;)2=1;3=1;");
        x.setValue(1, 1024);
        x.run();
        check.due("the hundredth is done", x.told(3), 100);
        check.due("the next one is not", x.value(3), 0);
    }

    private static void faultyRuns() {
        check.on("Returns the number of operations that were carried out; STATE if the program has a fault.");
        check.refused("a fault at the end", () -> faulty("2=1;3=1;x"), x -> x.run(), STATE);
        check.refused("an early end", () -> faulty("2=1;3=1"), x -> x.run(), STATE);
        check.refused("a fault in a loop of no rounds", () -> faulty("2=1;#0(3=8;)"), x -> x.run(), STATE);
        check.refused("a fault behind a quotient by 0", () -> faulty("2=1/0;x"), x -> x.run(), STATE);
        check.refused("a fault behind the limit", () -> faulty("#99(#99(2=1;))("), x -> x.run(), STATE);
    }

    private static StochasticBench faulty(String text) {
        StochasticBench x = Checks.busy();
        Checks.type(x, text);
        return x;
    }

    private static void stopped() {
        check.on("Tells why the latest run (by run()) ended.");
        StochasticBench x = Checks.withText("1=1/0;");
        x.run();
        check.due("a quotient by 0", x.stopped(), 2);
        x.operate(0, 1, 1, 1);
        check.due("operate() is no run", x.stopped(), 2);
        Checks.type(x, "#99(#99(1=1;))");
        check.due("typing is no run", x.stopped(), 2);
        x.ifRun(1, 4, 1);
        check.due("ifRun() is none", x.stopped(), 2);
        x.ensembleSum(1, 1, 8);
        check.due("ensembleSum() is none", x.stopped(), 2);
        x.ensembleSpread(1, 1, 8);
        check.due("ensembleSpread() is none", x.stopped(), 2);
        x.run();
        check.due("the limit", x.stopped(), 1);
        x.type('x');
        check.due("a faulty run", x.run(), STATE);
        check.due("is none", x.stopped(), 1);
        x.clear();
        x.run();
        check.due("an empty one is one", x.stopped(), 0);
        x.undo();
        x.undo();
        check.due("undo() does not matter", x.stopped(), 0);
    }

    private static void ifRun() {
        check.on("Tells which value a register would have after a run of the program in the text buffer, with another mode and seed.");
        StochasticBench x = new StochasticBench();
        x.setFormat(0, 2, 0, 2);
        x.setValue(0, 4096);
        x.setValue(1, 1024);
        Checks.type(x, "2=0+1;");
        int[] due = {4096, 6144, 4096, 4096};
        for (int mode = 0; mode <= 3; mode++) {
            check.due("mode " + mode, x.ifRun(2, mode, 5), due[mode]);
        }
        Checks.type(x, "");
        check.due("an empty program", x.ifRun(0, 4, 1), 4096);
        Checks.type(x, "2=1;3=1/7;2=0;");
        check.due("a run that stops before a quotient by 0", x.ifRun(2, 0, 1), 1024);
        Checks.type(x, "#99(3=1;)3=0;3=1;");
        check.due("a run that stops at the limit", x.ifRun(3, 0, 1), 4096);
        Checks.type(x, "#99(3=1;)3=0;");
        check.due("a run that does not", x.ifRun(3, 0, 1), 4096);
        Checks.type(x, "#98(3=1;)3=0;3=1;");
        check.due("nor this one", x.ifRun(3, 0, 1), 1024);
        check.due("a register that is not written", x.ifRun(7, 0, 1), 0);
        check.due("nothing is recorded", x.records(), 0);
    }

    private static void numbersOfIfRun() {
        check.on("(The operations have the numbers that they would have.)");
        for (int before : new int[] {0, 1, 5, 64, 70}) {
            for (int seed : new int[] {1, 2, 3, Integer.MAX_VALUE, Integer.MIN_VALUE, -1}) {
                StochasticBench x = stochastic(before);
                x.setBits(1 + before % 8);
                int[] guesses = new int[8];
                for (int r = 0; r <= 7; r++) {
                    guesses[r] = x.ifRun(r, 4, seed);
                }
                x.setSeed(seed);
                x.setMode(4);
                x.run();
                for (int r = 0; r <= 7; r++) {
                    check.due("register " + r + " after " + before + " operations", guesses[r], x.value(r));
                }
            }
        }
    }

    /** Four registers are rounded from halves by draws; so many operations were done before. */
    private static StochasticBench stochastic(int before) {
        StochasticBench x = new StochasticBench();
        x.setFormat(0, 1, 0, 0);
        x.setRegister(7, 1);
        x.setValue(7, 512);
        x.setMode(0);
        for (int i = 0; i < before; i++) {
            x.operate(0, 0, 1, 1);
        }
        Checks.type(x, "0=7;1=7;2=7;3=7;4=7;5=7;6=7;");
        return x;
    }

    private static void ensembles() {
        check.on("ifRun(r, 4, seed + i) for i from 0 to k - 1 (int arithmetic that wraps around).");
        compareEnsembles(new int[] {0, 1, -3, 1000});
        check.on("the number of runs, 1 to 8");
        StochasticBench x = stochastic(0);
        check.due("a single run has no spread", x.ensembleSpread(0, 3, 1), 0);
        check.due("a single run is its own sum", x.ensembleSum(0, 3, 1), x.ifRun(0, 4, 3));
        check.due("a register that stays, eight times", x.ensembleSum(7, 3, 8), 8 * 512);
        check.due("its spread", x.ensembleSpread(7, 3, 8), 0);
        x.setFormat(2, 10, 0, 0);
        x.setRegister(7, 2);
        x.setValue(7, 1048575);
        check.due("the greatest sum", x.ensembleSum(7, 3, 8), 8 * (1023 << 10));
        x.setValue(7, -1048575);
        check.due("the least sum", x.ensembleSum(7, 3, 8), -8 * (1023 << 10));
        check.due("no spread", x.ensembleSpread(7, 3, 8), 0);
    }

    private static void ensemblesThatWrapAround() {
        check.on("ifRun(r, 4, seed + i) for i from 0 to k - 1 (int arithmetic that wraps around).");
        compareEnsembles(new int[] {Integer.MAX_VALUE, Integer.MAX_VALUE - 1, Integer.MAX_VALUE - 6, Integer.MAX_VALUE - 7, Integer.MIN_VALUE, -1});
    }

    private static void compareEnsembles(int[] seeds) {
        for (int seed : seeds) {
            for (int k = 1; k <= 8; k++) {
                StochasticBench x = stochastic(2);
                for (int r = 0; r <= 7; r++) {
                    int sum = 0;
                    int least = Integer.MAX_VALUE;
                    int greatest = Integer.MIN_VALUE;
                    int one = seed;
                    for (int i = 0; i < k; i++) {
                        int v = x.ifRun(r, 4, one);
                        sum += v;
                        least = Math.min(least, v);
                        greatest = Math.max(greatest, v);
                        one = one == Integer.MAX_VALUE ? Integer.MIN_VALUE : one + 1;
                    }
                    check.due("sum of " + k + " from " + seed, x.ensembleSum(r, seed, k), sum);
                    check.due("spread of " + k + " from " + seed, x.ensembleSpread(r, seed, k), greatest - least);
                }
            }
        }
    }
}
