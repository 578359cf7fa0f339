/**
 * What the tests of sentences share, as their class above. Each test bears the number of a promise
 * and the sentence of the document that it is of, and a wrong answer is told with both. No object
 * is used for more than the 512 calls that the document speaks of.
 */
abstract class Sentences {
    static final String ARGUMENT = "IllegalArgumentException";
    static final String STATE = "IllegalStateException";
    static final String ARITHMETIC = "ArithmeticException";

    static final int[] NO_CODES = {0, -1, 1000000, 1000001, -999999, Integer.MIN_VALUE, Integer.MAX_VALUE};
    static final int[] NO_LANDS = {-1, 10, 11, 32, -32, Integer.MIN_VALUE, Integer.MAX_VALUE};
    static final int[] NO_PROCESSES = {-1, 16, 17, 31, 32, 33, -16, -32, Integer.MIN_VALUE, Integer.MAX_VALUE};
    static final int[] NO_DAYS = {-1, 100001, 65536 * 2, Integer.MIN_VALUE, Integer.MAX_VALUE};
    // As an int, 1L << 32 would be 0 and 5 more than it 5
    static final long[] NO_CENTS = {-1, 1000000001L, 1L << 32, (1L << 32) + 5, -(1L << 32),
        Integer.MIN_VALUE, Long.MIN_VALUE, Long.MAX_VALUE};

    private static String now = "";
    private static int tests = 0;
    private static int wrong = 0;

    interface Test {
        void run();
    }

    interface Call {
        Object answer();
    }

    interface Made {
        OriginRules object();
    }

    interface CallOn {
        Object answer(OriginRules x);
    }

    /** One of several cases that a sentence names. */
    static void test(int promise, String sentence, String of, Test test) {
        test(promise, sentence + " (" + of + ")", test);
    }

    static void test(int promise, String sentence, Test test) {
        now = "promise " + promise + ", \"" + sentence + "\"";
        tests++;
        try {
            test.run();
        } catch (RuntimeException e) {
            tell("ends with " + e);
        }
    }

    static void end() {
        System.out.println(wrong == 0 ? tests + " sentences hold" : wrong + " answers are not as due");
        if (wrong != 0) {
            System.exit(1);
        }
    }

    private static void tell(String what) {
        wrong++;
        System.out.println(now + ": " + what);
    }

    static void due(String what, Object want, Object got) {
        if (!want.equals(got)) {
            tell(what + " answered " + got + ", due is " + want);
        }
    }

    static void dueThrow(String what, String want, Call call) {
        due(what, "throws " + want, answer(call));
    }

    /** The answer as a text, or the name of what is thrown. */
    static String answer(Call call) {
        try {
            return String.valueOf(call.answer());
        } catch (RuntimeException e) {
            return "throws " + e.getClass().getSimpleName();
        }
    }

    static void write(OriginRules x, String text) {
        for (int i = 0; i < text.length(); i++) {
            due("sign " + i + " of " + text, true, x.sign(text.charAt(i)));
        }
    }

    static int read(OriginRules x, String text) {
        write(x, text);
        return x.read();
    }

    static OriginRules with(String text) {
        OriginRules x = new OriginRules();
        due("a right read of " + text, true, read(x, text) >= 1);
        return x;
    }

    static void dueRead(String text, int rows) {
        due("read of " + text, rows, read(new OriginRules(), text));
    }

    static void dueWrongPlace(String text, int place) {
        due("read of " + text, -1 - place, read(new OriginRules(), text));
    }

    static String times(int n, String text) {
        StringBuilder all = new StringBuilder();
        for (int i = 0; i < n; i++) {
            all.append(text);
        }
        return all.toString();
    }

    static void processes(OriginRules x, int... some) {
        for (int p : some) {
            due("process(" + p + ")", true, x.process(p));
        }
    }

    static String why(OriginRules x) {
        StringBuilder all = new StringBuilder();
        int i = 0;
        for (int told = x.why(0); told != -1 && i < 150; told = x.why(i)) {
            all.append(i == 0 ? "" : " ").append(told);
            i++;
        }
        return all.toString();
    }

    static String owns(OriginRules x) {
        StringBuilder all = new StringBuilder();
        for (int land = 0; land < 10; land++) {
            all.append(x.own(land) ? '1' : '0');
        }
        return all.toString();
    }

    static String share(OriginRules x, long price) {
        return x.share(price, 0) + " / " + x.share(price, 1);
    }

    /** An object with something of every kind in it, of which a refused call could change some. */
    static OriginRules busy() {
        OriginRules x = busyWithoutText();
        write(x, "3:W");
        return x;
    }

    static OriginRules busyWithoutText() {
        OriginRules x = with("11:H|V40&P3;12:S;2:P9;");
        x.part(110000, 1, 40);
        x.part(120000, 2, 3);
        x.part(110000, 0, 70);
        x.part(110001, 3, 5);
        processes(x, 3, 9);
        x.bar(9, true);
        x.bar(4, true);
        x.join(0, 3);
        x.join(2, 3);
        x.tolerance(1, 20);
        x.proof(0, 5, 10);
        x.proof(1, 0, 100000);
        x.verdict(110099, 100);
        return x;
    }

    /** A call that throws or is refused, on an object that then answers as one without that call. */
    static void dueRefused(Made made, String want, CallOn call) {
        OriginRules x = made.object();
        OriginRules twin = made.object();
        due("the refused call", want, answer(() -> call.answer(x)));
        due("all that is asked after a refused call", all(twin), all(x));
    }

    /** Goes on with calls that change the object, where a change would not be seen otherwise. */
    private static String all(OriginRules x) {
        StringBuilder all = new StringBuilder();
        for (int what = 0; what < 8; what++) {
            all.append(x.count(what)).append(' ');
        }
        all.append(why(x)).append(", ").append(share(x, 97)).append(", ").append(owns(x));
        for (int i = 0; i < x.count(6); i++) {
            all.append(", ").append(x.good(i, 1000000, 5)).append(x.good(i, 1000001, 5));
            all.append(x.good(i, 0, 4)).append(x.good(i, 0, 11));
        }
        int[] codes = {110099, 120000, 200000, 300000};
        for (int code : codes) {
            all.append(", ").append(x.verdict(code, 100)).append(" by ").append(why(x));
        }
        all.append(", ").append(x.verdict(120000, 60)).append(x.verdict(120000, 59));
        for (int p = 0; p < 16; p++) {
            all.append(' ').append(x.bar(p, true)).append(x.process(p));
        }
        all.append(", ").append(x.full(true)).append(' ').append(owns(x));
        all.append(", ").append(x.sign(';')).append(' ').append(x.read()).append(' ').append(x.count(1));
        return all.toString();
    }
}
