import java.io.IOException;
import java.nio.file.Files;
import java.nio.file.Path;
import java.util.ArrayList;
import java.util.List;

/** What the tests of the boundaries share. Each check stands under the sentence of the document that asks for it. */
final class Checks {
    static final int BAD = -2000000001, STATE = -2000000002, FULL = -2000000003, NONE = -2000000009;

    private static final Path DOCUMENT = Path.of("../shared/DOC.md");

    /** Makes an object and brings it to a state. */
    interface Scene {
        StochasticBench make();
    }

    interface Call {
        long on(StochasticBench x);
    }

    interface CallWith {
        long on(StochasticBench x, int argument);
    }

    private final String name;
    private final String document;
    private String sentence = "";
    private int checked = 0;
    private int wrong = 0;

    Checks(String name) throws IOException {
        this.name = name;
        document = Files.exists(DOCUMENT) ? plain(Files.readString(DOCUMENT)) : null;
    }

    private static String plain(String text) {
        return text.replaceAll("\\s+", " ");
    }

    /** The sentence that the next checks are about. A changed document is told, but only a wrong answer is a failure. */
    void on(String quoted) {
        sentence = quoted;
        if (document != null && !document.contains(plain(quoted))) {
            System.out.println("the document does not say (any more): " + quoted);
        }
    }

    private void fail(String what) {
        wrong++;
        if (wrong < 40) {
            System.out.println("\"" + sentence + "\": " + what);
        }
    }

    void due(String detail, long got, long want) {
        checked++;
        if (got != want) {
            fail(detail + " answered " + got + ", due is " + want);
        }
    }

    void must(String detail, boolean holds) {
        checked++;
        if (!holds) {
            fail(detail + " does not hold");
        }
    }

    void finish() {
        System.out.println(name + ": " + checked + " checks, " + wrong + " wrong");
        if (wrong != 0) {
            System.exit(1);
        }
    }

    /** The call answers the code and leaves all as it was. */
    void refused(String detail, Scene scene, Call call, long code) {
        StochasticBench x = scene.make();
        due(detail, call.on(x), code);
        must(detail + ": all is left as it was", whole(x).equals(whole(scene.make())));
    }

    /** The call answers something that is no error code and leaves all as it was. */
    void leaves(String detail, Scene scene, Call call) {
        StochasticBench x = scene.make();
        long answer = call.on(x);
        must(detail + " is not refused", answer != BAD && answer != STATE && answer != FULL);
        must(detail + ": all is left as it was", whole(x).equals(whole(scene.make())));
    }

    /** The least and the greatest argument are taken; what is beyond them is BAD, and changes nothing, in each scene. */
    void bound(String detail, int least, int greatest, CallWith call) {
        for (int inside : new int[] {least, greatest}) {
            long answer = call.on(busy(), inside);
            must(detail + " " + inside + " is taken", answer != BAD && answer != STATE && answer != FULL);
        }
        for (int outside : new int[] {least - 1, greatest + 1, Integer.MIN_VALUE, Integer.MAX_VALUE}) {
            refused(detail + " " + outside + " on a new object", StochasticBench::new, x -> call.on(x, outside), BAD);
            refused(detail + " " + outside, Checks::busy, x -> call.on(x, outside), BAD);
            refused(detail + " " + outside + " with a full text and a fault", Checks::clogged, x -> call.on(x, outside), BAD);
        }
    }

    /**
     * Six remembered states and four records: a sum, a quotient, a product and a fused one. The register 0 has the value 0,
     * and the latest run stopped before a quotient by it.
     */
    static StochasticBench busy() {
        StochasticBench x = new StochasticBench();
        x.setFormat(1, 10, -10, 0);
        x.setRegister(4, 1);
        x.setValue(4, 341);
        x.setValue(1, 3072);
        x.setBits(3);
        x.operate(1, 2, 1, 4);
        x.setMode(1);
        x.operate(5, 3, 4, 1);
        x.setMode(4);
        type(x, "5=4*4;6=+1*4;7=1/0;2=1;");
        x.run();
        return x;
    }

    /** As busy(), with 80 bytes in the text buffer, the last one of which is its fault. */
    static StochasticBench clogged() {
        StochasticBench x = busy();
        type(x, " ".repeat(79) + "x");
        return x;
    }

    /** As busy(), with a program that ends too early. */
    static StochasticBench unfinished() {
        StochasticBench x = busy();
        type(x, "5=4*4;6");
        return x;
    }

    static void type(StochasticBench x, String text) {
        x.clear();
        for (int i = 0; i < text.length(); i++) {
            x.type(text.charAt(i));
        }
    }

    static StochasticBench withText(String text) {
        StochasticBench x = new StochasticBench();
        type(x, text);
        return x;
    }

    /** All that can be seen of the object, now and after each undo() that is possible; it is used up by this. */
    static List<Long> whole(StochasticBench x) {
        List<Long> all = new ArrayList<>();
        for (int states = x.told(4); states >= 0; states--) {
            look(x, all);
            all.add((long) x.undo());
        }
        return all;
    }

    private static void look(StochasticBench x, List<Long> all) {
        all.add(x.digest());
        all.add((long) x.fault());
        all.add((long) x.ifRun(5, 4, 9));
        all.add((long) x.ifRun(6, 1, 9));
        // The document speaks of 512 calls, so not all of many records are looked at.
        int step = 1 + x.records() / 5;
        for (int i = 0; i < x.records(); i += step) {
            all.add(x.exactNumerator(i));
            all.add(x.exactDenominator(i));
            all.add(x.mean(i));
            all.add(x.biasNumerator(i));
            all.add(x.biasDenominator(i));
            all.add(x.variance(i));
            all.add((long) x.replay(i, 4, 5));
        }
    }
}
