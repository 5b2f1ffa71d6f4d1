import java.lang.reflect.Method;
import java.lang.reflect.Modifier;
import java.math.BigInteger;
import java.util.ArrayDeque;
import java.util.ArrayList;
import java.util.Arrays;
import java.util.Comparator;
import java.util.HashMap;
import java.util.List;
import java.util.Map;
import java.util.Random;
import java.util.TreeSet;

/**
 * Plays random calls on the class and on a slow second reading of the document, which lists the
 * values of a format, tries every draw and computes with fractions; all answers must be equal.
 */
public final class OracleTest {
    static final int BAD = -2000000001, STATE = -2000000002, FULL = -2000000003, NONE = -2000000009;
    private static final int CALLS = 512;

    private static int wrong = 0;

    public static void main(String[] args) throws Exception {
        int objects = args.length > 0 ? Integer.parseInt(args[0]) : 400;
        long first = args.length > 1 ? Long.parseLong(args[1]) : 1;
        for (long seed = first; seed < first + objects && wrong < 5; seed++) {
            new Play(seed).go();
        }
        checkAllFormats();
        System.out.println(wrong == 0 ? "OracleTest: all answers agree" : "OracleTest: " + wrong + " answers differ");
        if (wrong != 0) {
            System.exit(1);
        }
    }

    /** Every format there is, looked at by each exploring call at every value near one of its own. */
    private static void checkAllFormats() {
        for (int p = 1; p <= 10; p++) {
            for (int q = -10; q <= 0; q++) {
                for (int h = 0; h <= 9 && p + h <= 10; h++) {
                    StochasticBench x = new StochasticBench();
                    Oracle o = new Oracle();
                    x.setFormat(1, p, q, h);
                    o.setFormat(1, p, q, h);
                    String name = "format " + p + " " + q + " " + h + ": ";
                    same(name + "countValues", x.countValues(1), o.countValues(1));
                    same(name + "contains(1, 0)", x.contains(1, 0), o.contains(1, 0));
                    same(name + "contains(0, 1)", x.contains(0, 1), o.contains(0, 1));
                    int step = 1 + o.values(1).size() / 40;
                    int i = 0;
                    for (int v : o.values(1)) {
                        if (i++ % step != 0) {
                            continue;
                        }
                        for (int w = Math.max(-1048575, v - 1); w <= Math.min(1048575, v + 1); w++) {
                            same(name + "isValue " + w, x.isValue(1, w), o.isValue(1, w));
                            same(name + "next up " + w, x.next(1, w, false), o.next(1, w, false));
                            same(name + "next down " + w, x.next(1, w, true), o.next(1, w, true));
                            same(name + "between " + w, x.between(1, w, 1048575), o.between(1, w, 1048575));
                        }
                    }
                }
            }
        }
    }

    private static void same(String what, long got, long want) {
        if (got != want) {
            wrong++;
            if (wrong < 20) {
                System.out.println(what + " answered " + got + ", due is " + want);
            }
        }
    }

    /** One object and its oracle, with the calls that were made. */
    private static final class Play {
        private static final List<Method> FACE = face();
        private static final String[] LIKELY = {
            "operate", "operate", "operate", "operate", "operate", "operate", "setValue", "setValue", "setValue",
            "setFormat", "setRegister", "setRegister", "setMode", "setMode", "setBits", "setSeed", "undo", "undo",
            "run", "run", "ifRun", "ensembleSum", "ensembleSpread", "text", "text", "clearAccount",
            "digest", "digest", "exactNumerator", "biasNumerator", "biasDenominator", "mean", "variance", "replay",
            "replay", "exactDenominator", "contains", "next", "between", "any", "any", "any", "any"
        };

        private final Random random;
        private final StochasticBench bench = new StochasticBench();
        private final Oracle oracle = new Oracle();
        private final List<String> calls = new ArrayList<>();
        private final long seed;

        Play(long seed) {
            this.seed = seed;
            random = new Random(seed);
        }

        private static List<Method> face() {
            List<Method> all = new ArrayList<>();
            for (Method m : StochasticBench.class.getDeclaredMethods()) {
                if (Modifier.isPublic(m.getModifiers())) {
                    all.add(m);
                }
            }
            all.sort(Comparator.comparing(Method::getName));
            return all;
        }

        void go() throws Exception {
            int before = wrong;
            while (calls.size() < CALLS && wrong == before) {
                String name = LIKELY[random.nextInt(LIKELY.length)];
                if (name.equals("text")) {
                    typeText();
                } else if (name.equals("any")) {
                    call(FACE.get(random.nextInt(FACE.size())));
                } else {
                    call(find(name));
                }
            }
        }

        private Method find(String name) {
            for (Method m : FACE) {
                if (m.getName().equals(name)) {
                    return m;
                }
            }
            throw new IllegalStateException(name);
        }

        private void typeText() throws Exception {
            String text = random.nextInt(4) == 0 ? mutated(program(3)) : program(3);
            if (text.length() > 80 && random.nextInt(8) != 0) {
                text = "1=1+2;";
            }
            if (calls.size() + text.length() + 20 > CALLS) {
                return;
            }
            call(find("clear"));
            Method type = find("type");
            for (int i = 0; i < text.length(); i++) {
                invoke(type, new Object[] {(int) text.charAt(i)});
            }
            invoke(find("fault"), new Object[0]);
            if (random.nextBoolean()) {
                invoke(find("run"), new Object[0]);
                invoke(find("stopped"), new Object[0]);
            }
        }

        private String blanks() {
            return random.nextInt(12) == 0 ? " " : "";
        }

        private String register() {
            return blanks() + random.nextInt(8) + blanks();
        }

        private String program(int depth) {
            StringBuilder text = new StringBuilder(blanks());
            int statements = random.nextInt(4);
            for (int i = 0; i < statements; i++) {
                if (depth > 0 && random.nextInt(3) == 0) {
                    int count = random.nextInt(3) == 0 ? random.nextInt(100) : random.nextInt(6);
                    String digits = random.nextInt(4) == 0 && count < 10 ? "0" + count : "" + count;
                    text.append("#").append(digits).append(blanks()).append("(").append(program(depth - 1)).append(")");
                } else {
                    text.append(register()).append("=").append(term()).append(";").append(blanks());
                }
            }
            return text.toString();
        }

        private String term() {
            switch (random.nextInt(7)) {
                case 0: return register();
                case 1: return register() + "+" + register();
                case 2: return register() + "-" + register();
                case 3: return register() + "*" + register();
                case 4: return register() + "/" + register();
                default: return blanks() + "+" + register() + "*" + register();
            }
        }

        private String mutated(String text) {
            StringBuilder b = new StringBuilder(text);
            String signs = " #()=+-*/;0123456789a\u0000\u007f";
            int place = random.nextInt(b.length() + 1);
            char sign = signs.charAt(random.nextInt(signs.length()));
            switch (random.nextInt(3)) {
                case 0:
                    b.insert(place, sign);
                    break;
                case 1:
                    b.setLength(place);
                    break;
                default:
                    if (place < b.length()) {
                        b.setCharAt(place, sign);
                    }
                    break;
            }
            return b.toString();
        }

        private void call(Method m) throws Exception {
            Class<?>[] types = m.getParameterTypes();
            Object[] arguments = new Object[types.length];
            for (int i = 0; i < types.length; i++) {
                arguments[i] = types[i] == boolean.class ? (Object) random.nextBoolean() : (Object) argument(m.getName(), i);
            }
            if (m.getName().equals("setFormat") && random.nextInt(8) != 0) {
                int p = 1 + random.nextInt(10);
                arguments[1] = p;
                arguments[3] = random.nextInt(Math.min(10, 11 - p));
            }
            invoke(m, arguments);
        }

        private int argument(String name, int i) {
            int[] edges = {-1, -2, 64, 9, 10, 18, 128, Integer.MAX_VALUE, Integer.MIN_VALUE, 1048576, -1048576, 8, 4, 5, 6, 7};
            if (random.nextInt(40) == 0) {
                return edges[random.nextInt(edges.length)];
            }
            switch (name + i) {
                case "setFormat2": return -random.nextInt(11);
                case "setFormat3": return random.nextInt(10);
                case "setValue1": case "isValue1": case "next1": return someValue();
                case "between1": return -Math.abs(someValue());
                case "between2": return Math.abs(someValue());
                case "setSeed0": case "ifRun2": case "replay2": case "ensembleSum1": case "ensembleSpread1":
                    return random.nextInt(3) == 0 ? random.nextInt() : random.nextInt(100);
                case "setMode0": return random.nextInt(3) == 0 ? random.nextInt(5) : 4;
                case "setBits0": return 1 + random.nextInt(8);
                case "ifRun1": case "replay1": return random.nextInt(5);
                case "ensembleSum2": case "ensembleSpread2": return 1 + random.nextInt(8);
                case "operate0": return random.nextInt(6);
                case "type0": return random.nextInt(128);
                case "told0": return random.nextInt(18);
                case "account0": return random.nextInt(7);
                case "setFormat0": case "setRegister1": case "isValue0": case "next0": case "countValues0":
                case "between0": case "contains0": case "contains1": return random.nextInt(4);
                default: break;
            }
            boolean isRecord = i == 0 && !name.startsWith("set") && !name.startsWith("ensemble")
                && !name.equals("value") && !name.equals("formatOf") && !name.equals("ifRun");
            if (isRecord && !name.equals("operate")) {
                return oracle.records() == 0 ? 0 : random.nextInt(oracle.records());
            }
            return random.nextInt(8);
        }

        private int someValue() {
            switch (random.nextInt(4)) {
                case 0: return random.nextInt(2 * 1048575 + 1) - 1048575;
                case 1: return random.nextInt(8193) - 4096;
                case 2: return (random.nextInt(17) - 8) * 1024;
                default: return random.nextInt(65) - 32;
            }
        }

        private void invoke(Method m, Object[] arguments) throws Exception {
            Object got = m.invoke(bench, arguments);
            Object want = Oracle.class.getDeclaredMethod(m.getName(), m.getParameterTypes()).invoke(oracle, arguments);
            calls.add(m.getName() + Arrays.toString(arguments) + " = " + got);
            if (!got.equals(want)) {
                wrong++;
                System.out.println("play " + seed + ": due is " + want + " for the last of");
                for (String call : calls) {
                    System.out.println("  " + call);
                }
            }
        }
    }

    /** A fraction in lowest terms. */
    record Fraction(BigInteger n, BigInteger d) implements Comparable<Fraction> {
        static Fraction of(long n, long d) {
            return reduced(BigInteger.valueOf(n), BigInteger.valueOf(d));
        }

        static Fraction reduced(BigInteger n, BigInteger d) {
            BigInteger g = n.gcd(d);
            if (d.signum() < 0) {
                g = g.negate();
            }
            return new Fraction(n.divide(g), d.divide(g));
        }

        Fraction plus(Fraction o) {
            return reduced(n.multiply(o.d).add(o.n.multiply(d)), d.multiply(o.d));
        }

        Fraction times(Fraction o) {
            return reduced(n.multiply(o.n), d.multiply(o.d));
        }

        Fraction minus(Fraction o) {
            return plus(o.times(of(-1, 1)));
        }

        Fraction over(Fraction o) {
            return reduced(n.multiply(o.d), d.multiply(o.n));
        }

        @Override
        public int compareTo(Fraction o) {
            return n.multiply(o.d).compareTo(o.n.multiply(d));
        }

        long whole() {
            if (!d.equals(BigInteger.ONE)) {
                throw new IllegalStateException("not a multiple of the unit");
            }
            return n.longValueExact();
        }
    }

    record Shape(int p, int q, int h) {
        private static final Map<Shape, TreeSet<Integer>> LISTED = new HashMap<>();

        TreeSet<Integer> values() {
            return LISTED.computeIfAbsent(this, Shape::list);
        }

        private TreeSet<Integer> list() {
            TreeSet<Integer> all = new TreeSet<>();
            for (int e = q; e <= h; e++) {
                for (int m = 0; m < 1 << p; m++) {
                    int v = (int) (m * 1024 * Math.pow(2, e));
                    all.add(v);
                    all.add(-v);
                }
            }
            return all;
        }
    }

    record Entry(int number, int kind, int t, int a, int b, Shape shape, Fraction exact, int lower, int upper,
                 int mode, int bits, int draw, int outcome, int marks) {
        int round(int byMode, int byDraw) {
            if (lower == upper) {
                return lower;
            }
            Fraction low = Fraction.of(lower, 1024);
            Fraction up = Fraction.of(upper, 1024);
            int smaller = Math.abs(lower) < Math.abs(upper) ? lower : upper;
            switch (byMode) {
                case 0: return lower;
                case 1: return upper;
                case 2: return smaller;
                case 3:
                    int side = exact.minus(low).compareTo(up.minus(exact));
                    return side == 0 ? smaller : side < 0 ? lower : upper;
                default:
                    Fraction left = Fraction.of(byDraw, 1).times(up.minus(low));
                    return left.compareTo(exact.minus(low).times(Fraction.of(1 << bits, 1))) < 0 ? upper : lower;
            }
        }

        Fraction meanOfPowers(int power) {
            int count = mode == 4 && (marks & 1) == 0 ? 1 << bits : 1;
            Fraction sum = Fraction.of(0, 1);
            for (int draw = 0; draw < count; draw++) {
                Fraction one = Fraction.of(count == 1 ? outcome : round(4, draw), 1024);
                sum = sum.plus(power == 1 ? one : one.times(one));
            }
            return sum.over(Fraction.of(count, 1));
        }

        Fraction bias() {
            return meanOfPowers(1).minus(exact);
        }

        Fraction spread() {
            Fraction mean = meanOfPowers(1);
            return meanOfPowers(2).minus(mean.times(mean));
        }
    }

    /** A loop, or an operation if it has no body. */
    record Node(int count, List<Node> body, int kind, int t, int a, int b) {
    }

    static final class Fault extends RuntimeException {
        private static final long serialVersionUID = 1;
        final int position;

        Fault(int position) {
            this.position = position;
        }
    }

    static final class Stop extends RuntimeException {
        private static final long serialVersionUID = 1;
        final int why;

        Stop(int why) {
            this.why = why;
        }
    }

    static final class Memory {
        Shape[] shapes = {new Shape(4, -4, 3), new Shape(4, -4, 3), new Shape(4, -4, 3), new Shape(4, -4, 3)};
        int[] formats = new int[8];
        int[] values = new int[8];
        int mode = 4;
        int bits = 8;
        int seed = 1;
        int next = 0;
        List<Entry> entries = new ArrayList<>();
        long[] account = new long[7];

        Memory copy() {
            Memory m = new Memory();
            m.shapes = shapes.clone();
            m.formats = formats.clone();
            m.values = values.clone();
            m.mode = mode;
            m.bits = bits;
            m.seed = seed;
            m.next = next;
            m.entries = new ArrayList<>(entries);
            m.account = account.clone();
            return m;
        }

        static int draw(int number, int seed, int bits) {
            int x = seed + number * 747796405;
            x = (x ^ (x >>> 16)) * 73244475;
            x = (x ^ (x >>> 16)) * 73244475;
            return (x ^ (x >>> 16)) & ((1 << bits) - 1);
        }

        static int[] neighbors(Shape shape, Fraction x) {
            TreeSet<Integer> all = shape.values();
            Fraction scaled = x.times(Fraction.of(1024, 1));
            BigInteger[] parts = scaled.n().divideAndRemainder(scaled.d());
            boolean isWhole = parts[1].signum() == 0;
            long floor = parts[0].longValueExact() - (parts[1].signum() < 0 ? 1 : 0);
            if (scaled.compareTo(Fraction.of(all.last(), 1)) > 0) {
                return new int[] {all.last(), all.last(), 1};
            }
            if (scaled.compareTo(Fraction.of(all.first(), 1)) < 0) {
                return new int[] {all.first(), all.first(), 1};
            }
            return new int[] {all.floor((int) floor), all.ceiling((int) (isWhole ? floor : floor + 1)), 0};
        }

        int operate(int kind, int t, int a, int b) {
            Fraction x = Fraction.of(values[a], 1024);
            Fraction y = Fraction.of(values[b], 1024);
            Fraction z = Fraction.of(values[t], 1024);
            Fraction exact = kind == 0 ? x : kind == 1 ? x.plus(y) : kind == 2 ? x.minus(y)
                : kind == 3 ? x.times(y) : kind == 4 ? x.times(y).plus(z) : x.over(y);
            Shape shape = shapes[formats[t]];
            int[] near = neighbors(shape, exact);
            int draw = mode == 4 ? draw(next, seed, bits) : 0;
            Entry raw = new Entry(next, kind, t, a, b, shape, exact, near[0], near[1], mode, bits, draw, 0, near[2]);
            int outcome = raw.round(mode, draw);
            int marks = near[2] + (outcome == values[t] && !exact.equals(z) ? 2 : 0);
            Entry e = new Entry(next, kind, t, a, b, shape, exact, near[0], near[1], mode, bits, draw, outcome, marks);
            entries.add(e);
            if (entries.size() > 64) {
                entries.remove(0);
            }
            next++;
            values[t] = outcome;
            enter(e);
            return outcome;
        }

        private void enter(Entry e) {
            account[4] += e.marks() & 1;
            account[5] += e.marks() >> 1;
            if (e.kind() == 5) {
                account[6]++;
                return;
            }
            account[0]++;
            account[1] += Fraction.of(e.outcome(), 1024).minus(e.exact()).times(Fraction.of(1L << 20, 1)).whole();
            account[2] += e.bias().times(Fraction.of(1L << 20, 1)).whole();
            account[3] += e.spread().times(Fraction.of(1L << 36, 1)).whole();
        }
    }

    /** The document read once more, slowly. */
    static final class Oracle {
        private Memory now = new Memory();
        private final ArrayDeque<Memory> states = new ArrayDeque<>();
        private String text = "";
        private int stop = 0;
        private int at;
        private int done;

        TreeSet<Integer> values(int f) {
            return now.shapes[f].values();
        }

        private void change() {
            states.addLast(now.copy());
            if (states.size() > 6) {
                states.removeFirst();
            }
        }

        private static boolean in(int x, int from, int to) {
            return from <= x && x <= to;
        }

        private static boolean isNumber(int v) {
            return in(v, -1048575, 1048575);
        }

        int setFormat(int f, int p, int q, int h) {
            if (!in(f, 0, 3) || !in(p, 1, 10) || !in(q, -10, 0) || !in(h, 0, 9) || p + h > 10) {
                return BAD;
            }
            change();
            int before = now.shapes[f].p();
            now.shapes[f] = new Shape(p, q, h);
            for (int r = 0; r < 8; r++) {
                if (now.formats[r] == f) {
                    now.values[r] = 0;
                }
            }
            return before;
        }

        int setRegister(int r, int f) {
            if (!in(r, 0, 7) || !in(f, 0, 3)) {
                return BAD;
            }
            change();
            int before = now.formats[r];
            now.formats[r] = f;
            now.values[r] = 0;
            return before;
        }

        int setValue(int r, int v) {
            if (!in(r, 0, 7) || !isNumber(v)) {
                return BAD;
            }
            change();
            Fraction x = Fraction.of(v, 1024);
            int[] near = Memory.neighbors(now.shapes[now.formats[r]], x);
            Entry e = new Entry(0, 0, r, r, r, null, x, near[0], near[1], 3, 8, 0, 0, 0);
            now.values[r] = e.round(3, 0);
            return now.values[r];
        }

        int setMode(int m) {
            if (!in(m, 0, 4)) {
                return BAD;
            }
            change();
            int before = now.mode;
            now.mode = m;
            return before;
        }

        int setBits(int b) {
            if (!in(b, 1, 8)) {
                return BAD;
            }
            change();
            int before = now.bits;
            now.bits = b;
            return before;
        }

        int setSeed(int s) {
            change();
            int before = now.seed;
            now.seed = s;
            return before;
        }

        int value(int r) {
            return in(r, 0, 7) ? now.values[r] : BAD;
        }

        int formatOf(int r) {
            return in(r, 0, 7) ? now.formats[r] : BAD;
        }

        int operate(int kind, int t, int a, int b) {
            if (!in(kind, 0, 5) || !in(t, 0, 7) || !in(a, 0, 7) || !in(b, 0, 7)) {
                return BAD;
            }
            if (kind == 5 && now.values[b] == 0) {
                return STATE;
            }
            change();
            return now.operate(kind, t, a, b);
        }

        int type(int c) {
            if (!in(c, 0, 127)) {
                return BAD;
            }
            if (text.length() == 80) {
                return FULL;
            }
            text += (char) c;
            return text.length();
        }

        int clear() {
            int before = text.length();
            text = "";
            return before;
        }

        private void skip() {
            while (at < text.length() && text.charAt(at) == ' ') {
                at++;
            }
        }

        private char peek() {
            skip();
            return at < text.length() ? text.charAt(at) : (char) 255;
        }

        private char oneOf(String signs) {
            char c = peek();
            if (signs.indexOf(c) < 0) {
                throw new Fault(at);
            }
            at++;
            return c;
        }

        private List<Node> statements(int depth) {
            List<Node> all = new ArrayList<>();
            while (true) {
                char c = peek();
                if (c == (char) 255 && depth == 0 || c == ')' && depth > 0) {
                    return all;
                }
                if (c == '#') {
                    all.add(loop(depth));
                } else {
                    all.add(assignment());
                }
            }
        }

        private Node loop(int depth) {
            at++;
            String digits = "";
            while (digits.length() < 2 && at < text.length() && "0123456789".indexOf(text.charAt(at)) >= 0) {
                digits += text.charAt(at++);
            }
            if (digits.isEmpty()) {
                throw new Fault(at);
            }
            if (peek() == '(' && depth == 3) {
                throw new Fault(at);
            }
            oneOf("(");
            List<Node> body = statements(depth + 1);
            oneOf(")");
            return new Node(Integer.parseInt(digits), body, 0, 0, 0, 0);
        }

        private Node assignment() {
            String registers = "01234567";
            int t = oneOf(registers) - '0';
            oneOf("=");
            char c = oneOf(registers + "+");
            int kind;
            int a;
            int b;
            if (c == '+') {
                a = oneOf(registers) - '0';
                oneOf("*");
                b = oneOf(registers) - '0';
                oneOf(";");
                kind = 4;
            } else {
                a = c - '0';
                b = a;
                kind = ";+-*./".indexOf(oneOf(";+-*/"));
                if (kind != 0) {
                    b = oneOf(registers) - '0';
                    oneOf(";");
                }
            }
            return new Node(1, null, kind, t, a, b);
        }

        private List<Node> parse() {
            at = 0;
            return statements(0);
        }

        int fault() {
            try {
                parse();
                return NONE;
            } catch (Fault f) {
                return f.position;
            }
        }

        private void execute(List<Node> nodes, Memory m) {
            for (Node node : nodes) {
                if (node.body() == null) {
                    if (done == 100) {
                        throw new Stop(1);
                    }
                    if (node.kind() == 5 && m.values[node.b()] == 0) {
                        throw new Stop(2);
                    }
                    m.operate(node.kind(), node.t(), node.a(), node.b());
                    done++;
                } else {
                    for (int i = 0; i < node.count(); i++) {
                        execute(node.body(), m);
                    }
                }
            }
        }

        private int perform(Memory m) {
            done = 0;
            try {
                execute(parse(), m);
                return 0;
            } catch (Stop s) {
                return s.why;
            }
        }

        int run() {
            if (fault() != NONE) {
                return STATE;
            }
            change();
            stop = perform(now);
            return done;
        }

        int stopped() {
            return stop;
        }

        int ifRun(int r, int mode, int seed) {
            if (!in(r, 0, 7) || !in(mode, 0, 4)) {
                return BAD;
            }
            if (fault() != NONE) {
                return STATE;
            }
            Memory m = now.copy();
            m.mode = mode;
            m.seed = seed;
            perform(m);
            return m.values[r];
        }

        int ensembleSum(int r, int seed, int k) {
            if (!in(r, 0, 7) || !in(k, 1, 8)) {
                return BAD;
            }
            if (fault() != NONE) {
                return STATE;
            }
            int sum = 0;
            for (int i = 0; i < k; i++) {
                sum += ifRun(r, 4, seed + i);
            }
            return sum;
        }

        int ensembleSpread(int r, int seed, int k) {
            if (!in(r, 0, 7) || !in(k, 1, 8)) {
                return BAD;
            }
            if (fault() != NONE) {
                return STATE;
            }
            TreeSet<Integer> all = new TreeSet<>();
            for (int i = 0; i < k; i++) {
                all.add(ifRun(r, 4, seed + i));
            }
            return all.last() - all.first();
        }

        int records() {
            return now.entries.size();
        }

        private boolean no(int i) {
            return !in(i, 0, now.entries.size() - 1);
        }

        int numberOf(int i) {
            return no(i) ? BAD : now.entries.get(i).number();
        }

        int operation(int i) {
            if (no(i)) {
                return BAD;
            }
            Entry e = now.entries.get(i);
            return 1000 * e.kind() + 100 * e.t() + 10 * e.a() + e.b();
        }

        int result(int i) {
            return no(i) ? BAD : now.entries.get(i).outcome();
        }

        int neighbor(int i, boolean upper) {
            return no(i) ? BAD : upper ? now.entries.get(i).upper() : now.entries.get(i).lower();
        }

        int drawOf(int i) {
            return no(i) ? BAD : now.entries.get(i).draw();
        }

        int flags(int i) {
            return no(i) ? BAD : now.entries.get(i).marks();
        }

        long exactNumerator(int i) {
            return no(i) ? BAD : now.entries.get(i).exact().n().longValueExact();
        }

        long exactDenominator(int i) {
            return no(i) ? BAD : now.entries.get(i).exact().d().longValueExact();
        }

        int replay(int i, int mode, int seed) {
            if (no(i) || !in(mode, 0, 4)) {
                return BAD;
            }
            Entry e = now.entries.get(i);
            return e.round(mode, Memory.draw(e.number(), seed, e.bits()));
        }

        long mean(int i) {
            return no(i) ? BAD : now.entries.get(i).meanOfPowers(1).times(Fraction.of(1L << 18, 1)).whole();
        }

        long biasNumerator(int i) {
            return no(i) ? BAD : now.entries.get(i).bias().n().longValueExact();
        }

        long biasDenominator(int i) {
            return no(i) ? BAD : now.entries.get(i).bias().d().longValueExact();
        }

        long variance(int i) {
            return no(i) ? BAD : now.entries.get(i).spread().times(Fraction.of(1L << 36, 1)).whole();
        }

        long account(int what) {
            return in(what, 0, 6) ? now.account[what] : BAD;
        }

        int clearAccount() {
            change();
            int before = (int) (now.account[0] & 0x7fffffffL);
            now.account = new long[7];
            return before;
        }

        int isValue(int f, int v) {
            return !in(f, 0, 3) || !isNumber(v) ? BAD : values(f).contains(v) ? 1 : 0;
        }

        int next(int f, int v, boolean down) {
            if (!in(f, 0, 3) || !isNumber(v)) {
                return BAD;
            }
            Integer found = down ? values(f).lower(v) : values(f).higher(v);
            return found == null ? NONE : found;
        }

        int countValues(int f) {
            return in(f, 0, 3) ? values(f).size() : BAD;
        }

        int between(int f, int v, int w) {
            if (!in(f, 0, 3) || !isNumber(v) || !isNumber(w) || w < v) {
                return BAD;
            }
            return values(f).subSet(v, true, w, true).size();
        }

        int contains(int f, int g) {
            return !in(f, 0, 3) || !in(g, 0, 3) ? BAD : values(f).containsAll(values(g)) ? 1 : 0;
        }

        int undo() {
            if (states.isEmpty()) {
                return STATE;
            }
            now = states.removeLast();
            return states.size();
        }

        int told(int what) {
            if (!in(what, 0, 17)) {
                return BAD;
            }
            if (what < 6) {
                return new int[] {now.mode, now.bits, now.seed, now.next, states.size(), text.length()}[what];
            }
            Shape shape = now.shapes[(what - 6) % 4];
            return what < 10 ? shape.p() : what < 14 ? shape.q() : shape.h();
        }

        long digest() {
            List<Long> all = new ArrayList<>();
            for (int i = 0; i < 18; i++) {
                all.add((long) told(i));
            }
            for (int r = 0; r < 8; r++) {
                all.add((long) formatOf(r));
                all.add((long) value(r));
            }
            for (int i = 0; i < 7; i++) {
                all.add(account(i));
            }
            all.add((long) stopped());
            for (int i = 0; i < records(); i++) {
                all.add((long) numberOf(i));
                all.add((long) operation(i));
                all.add((long) result(i));
                all.add((long) neighbor(i, false));
                all.add((long) neighbor(i, true));
                all.add((long) drawOf(i));
                all.add((long) flags(i));
            }
            long h = 18432;
            for (long v : all) {
                h = 31 * h + v;
            }
            return h;
        }
    }
}
