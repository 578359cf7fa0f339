import java.lang.reflect.Constructor;
import java.lang.reflect.Field;
import java.lang.reflect.Method;
import java.lang.reflect.Modifier;
import java.util.Set;
import java.util.TreeSet;

/** The promises one by one: ordinary inputs, the edges that the document names, wrong inputs. */
public final class OriginRulesPromises {
    private static final String ARGUMENT = "IllegalArgumentException";
    private static final String STATE = "IllegalStateException";
    private static final String ARITHMETIC = "ArithmeticException";

    private static int wrong = 0;

    private interface Call {
        Object answer();
    }

    public static void main(String[] args) {
        face();
        newObject();
        sign();
        readRows();
        readWrongPlaces();
        readLimits();
        readKeepsOrReplaces();
        part();
        clear();
        process();
        bar();
        join();
        full();
        tolerance();
        toleranceOfEachChange();
        verdictRow();
        verdictOrder();
        verdictFactors();
        verdictWrong();
        whyOrder();
        whyKept();
        whyLongest();
        share();
        proof();
        good();
        own();
        count();
        System.out.println(wrong == 0 ? "all promises hold" : wrong + " answers are not as due");
        if (wrong != 0) {
            System.exit(1);
        }
    }

    private static void due(String what, Object want, Object got) {
        if (!want.equals(got)) {
            wrong++;
            System.out.println(what + " answered " + got + ", due is " + want);
        }
    }

    private static void dueThrow(String what, String want, Call call) {
        String got = "nothing";
        try {
            got = "the answer " + call.answer();
        } catch (RuntimeException e) {
            got = e.getClass().getSimpleName();
        }
        due(what, want, got);
    }

    private static void write(OriginRules x, String text) {
        for (int i = 0; i < text.length(); i++) {
            due("sign of " + text, true, x.sign(text.charAt(i)));
        }
    }

    private static int read(OriginRules x, String text) {
        write(x, text);
        return x.read();
    }

    private static OriginRules with(String text) {
        OriginRules x = new OriginRules();
        if (read(x, text) < 1) {
            due("read of " + text, "rows", "a wrong place");
        }
        return x;
    }

    private static void dueRead(String text, int want) {
        due("read of " + text, want, read(new OriginRules(), text));
    }

    private static void dueWrong(String text, int place) {
        dueRead(text, -1 - place);
    }

    private static String why(OriginRules x) {
        StringBuilder all = new StringBuilder();
        for (int i = 0; x.why(i) != OriginRules.NONE && i < 400; i++) {
            all.append(i == 0 ? "" : " ").append(x.why(i));
        }
        return all.toString();
    }

    private static void dueVerdict(OriginRules x, int code, long price, int want, String wantWhy) {
        due("verdict(" + code + ", " + price + ")", want, x.verdict(code, price));
        due("why of verdict(" + code + ", " + price + ")", wantWhy, why(x));
    }

    private static void face() {
        Set<String> got = new TreeSet<>();
        for (Method m : OriginRules.class.getDeclaredMethods()) {
            if (!Modifier.isPrivate(m.getModifiers())) {
                got.add(m.getName());
            }
        }
        for (Field f : OriginRules.class.getDeclaredFields()) {
            if (!Modifier.isPrivate(f.getModifiers())) {
                got.add(f.getName());
            }
        }
        Set<String> want = new TreeSet<>(Set.of("NONE", "sign", "read", "part", "clear", "process",
                "bar", "join", "full", "tolerance", "verdict", "why", "share", "proof", "good",
                "own", "count"));
        due("the face", want, got);
        Constructor<?>[] made = OriginRules.class.getDeclaredConstructors();
        due("constructors", 1, made.length);
        due("the class is final", true, Modifier.isFinal(OriginRules.class.getModifiers()));
        due("NONE", -1, OriginRules.NONE);
    }

    private static void newObject() {
        OriginRules x = new OriginRules();
        for (int what = 0; what <= 7; what++) {
            due("new count(" + what + ")", 0, x.count(what));
        }
        due("new verdict", 3, x.verdict(1, 1));
        due("new why(0)", -1, x.why(0));
        due("new share upper", 0L, x.share(5, 0));
        due("new share lower", 1L, x.share(5, 1));
        due("new own(0)", true, x.own(0));
        for (int land = 1; land <= 9; land++) {
            due("new own(" + land + ")", false, x.own(land));
        }
        due("new full(false)", false, x.full(false));
        due("new bar(0, false)", false, x.bar(0, false));
        due("new clear", 0, x.clear());
        due("new read", -1, x.read());
        OriginRules y = with("1:H;");
        y.part(100000, 1, 1);
        due("no tolerance at first", 0, y.verdict(100000, 1000000000L));
        OriginRules other = new OriginRules();
        due("objects are apart", 0, other.count(1) + other.count(2));
    }

    private static void sign() {
        OriginRules x = new OriginRules();
        int[] refused = {32, 127, 0, -1, 128, 65536 + 49, Integer.MIN_VALUE, Integer.MAX_VALUE};
        for (int c : refused) {
            due("sign(" + c + ")", false, x.sign(c));
        }
        due("signs after refused ones", 0, x.count(0));
        due("sign(33)", true, x.sign(33));
        due("sign(126)", true, x.sign(126));
        for (int i = 2; i < 300; i++) {
            due("sign " + i, true, x.sign(65));
        }
        due("sign 301", false, x.sign(65));
        due("signs", 300, x.count(0));
        due("read from sign 33 on", -1, x.read());
        due("signs after read", 0, x.count(0));
        due("sign after read", true, x.sign(65));
    }

    private static void readRows() {
        dueRead("1:W;", 1);
        dueRead("000000:W;", 1);
        dueRead("999999:V0|V00|V000|V100|V099|P0|P00|P15|P9;", 1);
        dueRead("1:W;1:W;12:C&H&S|(W|P1)&V50;", 3);
        dueRead("1:((((((((W))))))));", 1);
        dueRead("1:((((((((W))))))))&(((((((((W)))))))));", -1 - 28);
        dueRead("1:((((((((W))))))))&((((((((W))))))));", 1);
        dueRead("1:(W)|((W)&(W|C))&W;", 1);
    }

    private static void readWrongPlaces() {
        dueWrong("", 0);
        dueWrong(":", 0);
        dueWrong("W", 0);
        dueWrong(";", 0);
        dueWrong("1", 1);
        dueWrong("123456", 6);
        dueWrong("1234567", 6);
        dueWrong("1234567:W;", 6);
        dueWrong("1;", 1);
        dueWrong("1W;", 1);
        dueWrong("1:", 2);
        dueWrong("1:;", 2);
        dueWrong("1:w;", 2);
        dueWrong("1:X;", 2);
        dueWrong("1:1;", 2);
        dueWrong("1::W;", 2);
        dueWrong("1:W", 3);
        dueWrong("1:W:", 3);
        dueWrong("1:WW;", 3);
        dueWrong("1:W1;", 3);
        dueWrong("1:W(", 3);
        dueWrong("1:W&", 4);
        dueWrong("1:W&;", 4);
        dueWrong("1:W&&W;", 4);
        dueWrong("1:W||W;", 4);
        dueWrong("1:|W;", 2);
        dueWrong("1:&W;", 2);
        dueWrong("1:W);", 3);
        dueWrong("1:(W;", 4);
        dueWrong("1:(W", 4);
        dueWrong("1:(W)", 5);
        dueWrong("1:(W));", 5);
        dueWrong("1:();", 3);
        dueWrong("1:(", 3);
        dueWrong("1:(W|);", 5);
        dueWrong("1:(W)(W);", 5);
        dueWrong("1:(W)W;", 5);
        dueWrong("1:V;", 3);
        dueWrong("1:V", 3);
        dueWrong("1:VV1;", 3);
        dueWrong("1:V101;", 6);
        dueWrong("1:V101", 6);
        dueWrong("1:V999&W;", 6);
        dueWrong("1:V9999;", 6);
        dueWrong("1:V1000;", 6);
        dueWrong("1:V0001;", 6);
        dueWrong("1:P;", 3);
        dueWrong("1:P", 3);
        dueWrong("1:P16;", 5);
        dueWrong("1:P16", 5);
        dueWrong("1:P99|W;", 5);
        dueWrong("1:P100;", 5);
        dueWrong("1:P015;", 5);
        dueWrong("1:P-1;", 3);
        dueWrong("1:W;1", 5);
        dueWrong("1:W;;", 4);
        dueWrong("1:W;W;", 4);
        dueWrong("1:W;2:X;3:Y;", 6);
        dueWrong("1:(((((((((W)))))))));", 10);
        dueWrong("1:(W&((((((((W", 12);
        dueWrong("1:((((((((", 10);
    }

    private static void readLimits() {
        StringBuilder rows = new StringBuilder();
        for (int i = 0; i < 20; i++) {
            rows.append("1:W;");
        }
        dueRead(rows.toString(), 20);
        dueWrong(rows + "1", 80);
        dueWrong(rows + "1:W;", 80);
        dueWrong(rows + "x", 80);
        dueWrong(rows.substring(0, 79), 79);
        StringBuilder factors = new StringBuilder("1:");
        for (int i = 0; i < 149; i++) {
            factors.append("W|");
        }
        dueWrong(factors.toString(), 300);
        factors.setCharAt(299, ';');
        dueRead(factors.toString(), 1);
        factors.setCharAt(299, '&');
        factors.setCharAt(298, '?');
        dueWrong(factors.toString(), 298);
    }

    private static void readKeepsOrReplaces() {
        OriginRules x = with("1:W;2:W;");
        due("rows", 2, x.count(1));
        due("read of nothing", -1, x.read());
        due("rows after a read of nothing", 2, x.count(1));
        due("wrong read", -11, read(x, "3:W;3:W;3:"));
        due("signs after a wrong read", 0, x.count(0));
        due("rows after a wrong read", 2, x.count(1));
        due("old rule after a wrong read", 1, x.verdict(200000, 1));
        due("no new rule after a wrong read", 3, x.verdict(300000, 1));
        write(x, "3:");
        due("rows stay while the text comes", 1, x.verdict(100000, 1));
        due("read again", 1, read(x, "W;"));
        due("rows in place of those ahead", 1, x.count(1));
        due("old rule is gone", 3, x.verdict(200000, 1));
        due("new rule", 1, x.verdict(300000, 1));
    }

    private static void part() {
        OriginRules x = new OriginRules();
        int[] codes = {0, -1, 1000000, Integer.MIN_VALUE, Integer.MAX_VALUE};
        for (int code : codes) {
            dueThrow("part code " + code, ARGUMENT, () -> x.part(code, 0, 0));
        }
        int[] lands = {-1, 10, Integer.MIN_VALUE, Integer.MAX_VALUE};
        for (int land : lands) {
            dueThrow("part land " + land, ARGUMENT, () -> x.part(1, land, 0));
        }
        long[] cents = {-1, 1000000001L, Long.MIN_VALUE, Long.MAX_VALUE, 1L << 32, -(1L << 32)};
        for (long c : cents) {
            dueThrow("part cents " + c, ARGUMENT, () -> x.part(1, 0, c));
        }
        due("parts after wrong ones", 0, x.count(2));
        due("part low", 1, x.part(1, 0, 0));
        due("part high", 2, x.part(999999, 9, 1000000000L));
        for (int i = 3; i <= 12; i++) {
            due("part " + i, i, x.part(5, 5, 5));
        }
        dueThrow("part 13", STATE, () -> x.part(5, 5, 5));
        dueThrow("part 13, wrong", ARGUMENT, () -> x.part(0, 5, 5));
        due("parts", 12, x.count(2));
        due("cents of all foreign parts", 1000000050L, x.share(1, 0));
    }

    private static void clear() {
        OriginRules x = with("1:W&P2;");
        x.part(1, 1, 1);
        x.part(2, 2, 2);
        x.process(2);
        x.bar(5, true);
        x.join(0, 3);
        x.verdict(100000, 7);
        due("clear", 2, x.clear());
        due("clear again", 0, x.clear());
        due("parts after clear", 0, x.count(2));
        due("foreign after clear", 0, x.count(3));
        due("processes after clear", 0, x.count(4));
        due("pairs after clear", 1, x.count(5));
        due("rows after clear", 1, x.count(1));
        due("why after clear", "4", why(x));
        due("barred after clear", false, x.bar(5, true));
        due("process after clear", true, x.process(2));
        due("part after clear", 1, x.part(9, 9, 9));
        due("share after clear", 9L, x.share(1, 0));
        OriginRules y = new OriginRules();
        y.process(1);
        due("clear of processes alone", 0, y.clear());
        due("processes alone after clear", 0, y.count(4));
    }

    private static void process() {
        OriginRules x = new OriginRules();
        int[] none = {-1, 16, 32, -16, Integer.MIN_VALUE, Integer.MAX_VALUE};
        for (int p : none) {
            due("process(" + p + ")", false, x.process(p));
        }
        due("processes after wrong ones", 0, x.count(4));
        due("process(0)", true, x.process(0));
        due("process(0) again", false, x.process(0));
        due("process(15)", true, x.process(15));
        due("processes as bits", 32769, x.count(4));
    }

    private static void bar() {
        OriginRules x = with("1:P1;");
        int[] none = {-1, 16, 32, Integer.MIN_VALUE, Integer.MAX_VALUE};
        for (int p : none) {
            due("bar(" + p + ", true)", false, x.bar(p, true));
            due("bar(" + p + ", false)", false, x.bar(p, false));
        }
        due("bar(0, true)", true, x.bar(0, true));
        due("bar(0, true) again", false, x.bar(0, true));
        due("bar(15, true)", true, x.bar(15, true));
        due("bar(0, false)", true, x.bar(0, false));
        due("bar(0, false) again", false, x.bar(0, false));
        due("bar does no process", 0, x.count(4));
        due("barred and none done", 0, x.verdict(100000, 1));
        x.process(15);
        due("the only one done is barred", 2, x.verdict(100000, 1));
        x.process(1);
        due("one done is not barred", 1, x.verdict(100000, 1));
        x.bar(1, true);
        due("both are barred", 2, x.verdict(100000, 1));
        x.bar(15, false);
        due("no longer", 1, x.verdict(100000, 1));
    }

    private static void join() {
        OriginRules x = new OriginRules();
        int[][] none = {{-1, 0}, {0, -1}, {10, 0}, {0, 10}, {0, 0}, {9, 9}, {10, 10},
            {Integer.MIN_VALUE, 1}, {1, Integer.MAX_VALUE}, {32, 1}};
        for (int[] pair : none) {
            dueThrow("join(" + pair[0] + ", " + pair[1] + ")", ARGUMENT,
                    () -> x.join(pair[0], pair[1]));
        }
        due("pairs after wrong ones", 0, x.count(5));
        int pairs = 0;
        for (int land = 0; land < 10; land++) {
            for (int other = 0; other < land; other++) {
                pairs++;
                due("join", 1, x.join(land, other));
                due("join again", 0, x.join(land, other));
                due("join turned round", 0, x.join(other, land));
                due("pairs", pairs, x.count(5));
            }
        }
        due("all pairs", 45, x.count(5));
    }

    private static void full() {
        OriginRules x = new OriginRules();
        x.join(7, 3);
        x.join(3, 9);
        x.join(0, 9);
        x.join(4, 5);
        x.part(1, 7, 1);
        due("not full", "1000000001", owns(x));
        due("foreign, not full", 1, x.count(3));
        due("full(true)", true, x.full(true));
        due("full(true) again", false, x.full(true));
        due("full", "1001000101", owns(x));
        due("foreign, full", 0, x.count(3));
        due("full(false)", true, x.full(false));
        due("full(false) again", false, x.full(false));
        due("not full again", "1000000001", owns(x));
        OriginRules chain = new OriginRules();
        chain.full(true);
        int[] lands = {0, 9, 1, 8, 2, 7, 3, 6, 4, 5};
        for (int i = 8; i > 0; i--) {
            chain.join(lands[i], lands[i + 1]);
        }
        due("a chain that is not joined to 0", "1000000000", owns(chain));
        chain.join(9, 0);
        due("a chain that is", "1111111111", owns(chain));
    }

    private static String owns(OriginRules x) {
        StringBuilder all = new StringBuilder();
        for (int land = 0; land < 10; land++) {
            all.append(x.own(land) ? '1' : '0');
        }
        return all.toString();
    }

    private static void tolerance() {
        OriginRules x = with("1:H;");
        x.part(100001, 1, 50);
        int[][] none = {{0, 0}, {0, -1}, {-1, 1}, {2, 1}, {0, 1001}, {1001, 1000},
            {Integer.MIN_VALUE, 1}, {1, Integer.MAX_VALUE}, {-1, -1}};
        due("tolerance(1, 20)", true, x.tolerance(1, 20));
        for (int[] t : none) {
            due("tolerance(" + t[0] + ", " + t[1] + ")", false, x.tolerance(t[0], t[1]));
        }
        due("exactly", 1, x.verdict(100000, 1000));
        due("a cent of the price less", 0, x.verdict(100000, 999));
        due("tolerance(0, 1)", true, x.tolerance(0, 1));
        due("none", 0, x.verdict(100000, 1000000000L));
        due("tolerance(0, 1) again", true, x.tolerance(0, 1));
        due("tolerance(1000, 1000)", true, x.tolerance(1000, 1000));
        due("all of the price", 1, x.verdict(100000, 50));
        due("above the price", 0, x.verdict(100000, 49));
        due("tolerance(1, 1000)", true, x.tolerance(1, 1000));
        due("a thousandth", 1, x.verdict(100000, 50000));
        due("a thousandth, less a cent", 0, x.verdict(100000, 49999));
    }

    private static void toleranceOfEachChange() {
        OriginRules x = with("1:C;2:H;3:S;4:V4;");
        x.tolerance(1, 10);
        x.part(129999, 1, 3);
        x.part(120000, 2, 2);
        x.part(120000, 0, 900);
        x.part(239999, 1, 900);
        due("together within, C", 1, x.verdict(125555, 50));
        due("together above, C", 0, x.verdict(125555, 49));
        x.clear();
        x.part(212199, 1, 3);
        x.part(212100, 2, 2);
        x.part(212200, 2, 900);
        due("together within, H", 1, x.verdict(212150, 50));
        due("together above, H", 0, x.verdict(212150, 49));
        x.clear();
        x.part(312199, 1, 3);
        x.part(312199, 2, 2);
        x.part(312198, 2, 900);
        due("together within, S", 1, x.verdict(312199, 50));
        due("together above, S", 0, x.verdict(312199, 49));
        x.clear();
        x.part(400000, 1, 5);
        due("not for V", 0, x.verdict(400000, 100));
        x.clear();
        x.tolerance(0, 1);
        x.part(312199, 1, 0);
        due("0 cents are not above 0", 1, x.verdict(312199, 50));
        due("nor of a price of 0", 1, x.verdict(312199, 0));
        x.part(312199, 1, 1);
        x.tolerance(1, 1);
        due("a cent is above a price of 0", 0, x.verdict(312199, 0));
        x.clear();
        for (int i = 0; i < 12; i++) {
            x.part(312199, 1, 1000000000L);
        }
        x.tolerance(1000, 1000);
        due("the dearest parts", 0, x.verdict(312199, 1000000000L));
    }

    private static void verdictRow() {
        OriginRules x = with("1:P1;12:P2;123456:P3;12345:P4;0:P5;00:P6;000001:P7;1:P8;12:P9;");
        int[][] due = {{199999, 8}, {110000, 8}, {120000, 9}, {123450, 4}, {123456, 3},
            {123459, 4}, {12345, 5}, {12, 6}, {1, 7}, {2, 6}, {100000, 8}, {123400, 9}};
        for (int[] d : due) {
            x.clear();
            x.process(d[1]);
            due("the row of " + d[0], 1, x.verdict(d[0], 1));
            x.clear();
            for (int p = 0; p < 16; p++) {
                if (p != d[1]) {
                    x.process(p);
                }
            }
            due("no other row of " + d[0], 0, x.verdict(d[0], 1));
        }
        due("no row", 3, x.verdict(200000, 1));
        OriginRules y = with("12:W;");
        due("012345 does not begin with 12", 3, y.verdict(12345, 1));
        due("000012 does not begin with 12", 3, y.verdict(12, 1));
        OriginRules z = with("012:W;");
        due("012345 begins with 012", 1, z.verdict(12345, 1));
        due("123456 does not begin with 012", 3, z.verdict(123456, 1));
        OriginRules longer = with("12:P0;1:W;");
        due("the longer row stays ahead of a later one", 0, longer.verdict(120000, 1));
    }

    private static void verdictOrder() {
        OriginRules x = with("1:W;2:P3;");
        x.process(3);
        x.bar(3, true);
        due("no rule goes ahead of barred works", 3, x.verdict(300000, 1));
        due("barred works go ahead of a rule that holds", 2, x.verdict(100000, 1));
        due("barred works, whatever the rule", 2, x.verdict(200000, 1));
        x.bar(3, false);
        due("the rule holds", 1, x.verdict(200000, 1));
        x.clear();
        due("the rule does not hold", 0, x.verdict(200000, 1));
    }

    private static void verdictFactors() {
        OriginRules w = with("1:W;");
        due("W", 1, w.verdict(100000, 0));
        w.part(1, 0, 0);
        due("W with an own part", 0, w.verdict(100000, 0));

        OriginRules c = with("1:C;2:H;3:S;0:C;");
        c.part(129999, 0, 1);
        due("C with an own part", 1, c.verdict(121234, 1));
        c.part(119999, 1, 1);
        due("C of another chapter", 1, c.verdict(121234, 1));
        c.part(129999, 1, 1);
        due("C of the same chapter", 0, c.verdict(121234, 1));
        c.join(1, 0);
        due("C with a joined land", 1, c.verdict(121234, 1));
        c.part(212345, 2, 1);
        due("H of the same heading", 0, c.verdict(212399, 1));
        due("H of another heading", 1, c.verdict(212499, 1));
        c.part(312345, 2, 1);
        due("S of the same code", 0, c.verdict(312345, 1));
        due("S of another code", 1, c.verdict(312346, 1));
        c.part(12345, 2, 1);
        due("C of chapter 01", 0, c.verdict(19999, 1));
        due("C of chapter 00", 1, c.verdict(1234, 1));

        OriginRules v = with("1:V40;2:V0;3:V100;");
        due("V0 without parts", 1, v.verdict(200000, 1));
        due("V with a price of 0", 0, v.verdict(100000, 0));
        due("V100 with a price of 0", 0, v.verdict(300000, 0));
        v.part(5, 1, 30);
        v.part(6, 2, 10);
        v.part(7, 0, 500);
        due("V exactly", 1, v.verdict(100000, 100));
        due("V above", 0, v.verdict(100000, 99));
        due("V0 above", 0, v.verdict(200000, 1000000000L));
        due("V100 exactly", 1, v.verdict(300000, 40));
        due("V100 above", 0, v.verdict(300000, 39));

        OriginRules p = with("1:P15;2:P0;3:P07;");
        p.process(15);
        due("P15", 1, p.verdict(100000, 0));
        due("P0", 0, p.verdict(200000, 0));
        p.process(7);
        due("P07", 1, p.verdict(300000, 0));
    }

    private static void verdictWrong() {
        OriginRules x = with("1:W;");
        x.verdict(100000, 0);
        int[] codes = {0, -1, 1000000, Integer.MIN_VALUE, Integer.MAX_VALUE};
        for (int code : codes) {
            dueThrow("verdict code " + code, ARGUMENT, () -> x.verdict(code, 0));
        }
        long[] prices = {-1, 1000000001L, Long.MIN_VALUE, Long.MAX_VALUE, 1L << 32};
        for (long price : prices) {
            dueThrow("verdict price " + price, ARGUMENT, () -> x.verdict(100000, price));
            dueThrow("verdict price " + price + ", no rule", ARGUMENT,
                    () -> x.verdict(200000, price));
        }
        due("why after wrong verdicts", "5", why(x));
        due("the highest price", 1, x.verdict(199999, 1000000000L));
        due("the lowest code", 3, x.verdict(1, 0));
        due("the highest code", 3, x.verdict(999999, 0));
    }

    /** P1 holds and P0 does not; the places are those of the letters in the row. */
    private static void whyOrder() {
        String[][] due = {
            {"1:P1;", "1", "5"},
            {"1:P0;", "0", "4"},
            {"1:P1|P0;", "1", "5"},
            {"1:P0|P1;", "1", "4 11"},
            {"1:P0|P0|P1|P1;", "1", "4 10 17"},
            {"1:P1&P1&P0&P1;", "0", "5 11 16"},
            {"1:P0&P1|P1;", "1", "4 17"},
            {"1:P0&P1&P1|P0&P1|P1&P0;", "0", "4 22 35 40"},
            {"1:P1|P0&P0;", "1", "5"},
            {"1:P1&P0|P1;", "1", "5 10 17"},
            {"1:(P0|P1)&P1;", "1", "6 13 21"},
            {"1:(P1|P0)&P0;", "0", "7 20"},
            {"1:(P0&P1)|P1;", "1", "6 21"},
            {"1:P0&(P1|P1)|P1;", "1", "4 27"},
            {"1:P0&(P1|P1)&P1|P1;", "1", "4 33"},
            {"1:P1|(P0|P1)&P1;", "1", "5"},
            {"1:P1&(P0|(P0|P1)&P1)&P0;", "0", "5 12 20 27 35 42"},
            {"1:P1&(P1|(P0|P1)&P1)&P0;", "0", "5 13 42"},
            {"1:(P1|P1)|P1;", "1", "7"},
            {"1:(P1&P0)&P1|P1;", "1", "7 12 27"},
            {"1:((P0))|((P1));", "1", "8 23"},
            {"1:((P0|P0)&P1)|P0;", "0", "8 14 30"},
            {"1:P0&((P1)|(P1))|P0;", "0", "4 34"},
            {"123456:P01;", "1", "15"},
        };
        for (String[] d : due) {
            OriginRules x = with(d[0]);
            x.process(1);
            due("verdict of " + d[0], Integer.parseInt(d[1]), x.verdict(123456, 1));
            due("why of " + d[0], d[2], why(x));
            due("asked of " + d[0], d[2].split(" ").length, x.count(7));
        }
    }

    private static void whyKept() {
        OriginRules x = with("1:W;23:P3|C;");
        dueVerdict(x, 234567, 1, 1, "6 13");
        due("why(-1)", -1, x.why(-1));
        due("why(2)", -1, x.why(2));
        due("why(max)", -1, x.why(Integer.MAX_VALUE));
        due("why(min)", -1, x.why(Integer.MIN_VALUE));
        dueVerdict(x, 300000, 1, 3, "6 13");
        x.process(9);
        x.bar(9, true);
        dueVerdict(x, 100000, 1, 2, "6 13");
        due("asked after verdicts of 2 and 3", 2, x.count(7));
        read(x, "9:W;");
        due("why after a read", "6 13", why(x));
        x.clear();
        dueVerdict(x, 900000, 1, 1, "5");
        due("asked now", 1, x.count(7));
    }

    private static void whyLongest() {
        StringBuilder text = new StringBuilder("1:");
        for (int i = 0; i < 148; i++) {
            text.append("W|");
        }
        text.append("S;");
        OriginRules x = with(text.toString());
        x.part(1, 0, 0);
        due("the longest row", 1, x.verdict(100000, 0));
        due("asked in the longest row", 149, x.count(7));
        due("the last but one", 2 * 296, x.why(147));
        due("the last", 2 * 298 + 1, x.why(148));
        due("none behind it", -1, x.why(149));
    }

    private static void share() {
        OriginRules x = new OriginRules();
        x.part(1, 1, 40);
        x.part(2, 2, 20);
        x.part(3, 0, 1000);
        dueShare(x, 100, 3, 5);
        dueShare(x, 60, 1, 1);
        dueShare(x, 7, 60, 7);
        dueShare(x, 1, 60, 1);
        dueShare(x, 40, 3, 2);
        dueShare(x, 1000000000L, 3, 50000000);
        x.join(0, 2);
        dueShare(x, 100, 2, 5);
        x.join(0, 1);
        dueShare(x, 100, 0, 1);
        x.clear();
        for (int i = 0; i < 12; i++) {
            x.part(1, 9, 1000000000L);
        }
        dueShare(x, 999999999L, 12000000000L / 3, 333333333L);
        x.clear();
        x.part(1, 9, 433494437L);
        dueShare(x, 701408733L, 433494437L, 701408733L);
        dueThrow("share of 0, upper", ARITHMETIC, () -> x.share(0, 0));
        dueThrow("share of 0, lower", ARITHMETIC, () -> x.share(0, 1));
        dueThrow("share of 0, wrong side", ARGUMENT, () -> x.share(0, 2));
        dueThrow("share side -1", ARGUMENT, () -> x.share(5, -1));
        dueThrow("share side 2", ARGUMENT, () -> x.share(5, 2));
        dueThrow("share of -1", ARGUMENT, () -> x.share(-1, 0));
        dueThrow("share of too much", ARGUMENT, () -> x.share(1000000001L, 1));
        dueThrow("share of 2 to the 32", ARGUMENT, () -> x.share(1L << 32, 1));
        dueThrow("share of the least", ARGUMENT, () -> x.share(Long.MIN_VALUE, 0));
    }

    private static void dueShare(OriginRules x, long price, long upper, long lower) {
        due("upper share of " + price, upper, x.share(price, 0));
        due("lower share of " + price, lower, x.share(price, 1));
    }

    private static void proof() {
        OriginRules x = new OriginRules();
        int[][] none = {{-1, 0, 0}, {2, 0, 0}, {0, -1, 0}, {0, 0, 100001}, {0, 1, 0},
            {1, 100001, 100001}, {0, 5, -5}, {Integer.MIN_VALUE, 0, 0},
            {0, Integer.MIN_VALUE, Integer.MAX_VALUE}};
        for (int[] p : none) {
            dueThrow("proof of kind " + p[0] + " from " + p[1] + " to " + p[2], ARGUMENT,
                    () -> x.proof(p[0], p[1], p[2]));
        }
        due("proofs after wrong ones", 0, x.count(6));
        due("proof 0", 0, x.proof(0, 0, 0));
        due("proof 1", 1, x.proof(1, 100000, 100000));
        for (int i = 2; i < 20; i++) {
            due("proof " + i, i, x.proof(i % 2, i, 100000));
        }
        dueThrow("proof 20", STATE, () -> x.proof(0, 0, 0));
        dueThrow("proof 20, wrong", ARGUMENT, () -> x.proof(2, 0, 0));
        due("proofs", 20, x.count(6));
        due("the last proof", true, x.good(19, 1000000000L, 19));
    }

    private static void good() {
        OriginRules x = new OriginRules();
        dueThrow("good of none", ARGUMENT, () -> x.good(0, 0, 0));
        x.proof(0, 10, 20);
        x.proof(1, 20, 100000);
        due("certificate, first day", true, x.good(0, 1000000, 10));
        due("certificate, last day", true, x.good(0, 0, 20));
        due("certificate, a day early", false, x.good(0, 0, 9));
        due("certificate, a day late", false, x.good(0, 0, 21));
        due("certificate, a cent above", false, x.good(0, 1000001, 15));
        due("approved, any value", true, x.good(1, 1000000000L, 20));
        due("approved, a day early", false, x.good(1, 5, 19));
        due("approved, the last of days", true, x.good(1, 0, 100000));
        int[] proofs = {-1, 2, 19, 20, Integer.MIN_VALUE, Integer.MAX_VALUE};
        for (int proof : proofs) {
            dueThrow("good of proof " + proof, ARGUMENT, () -> x.good(proof, 0, 0));
        }
        long[] cents = {-1, 1000000001L, Long.MIN_VALUE, Long.MAX_VALUE, 1L << 32};
        for (long c : cents) {
            dueThrow("good of cents " + c, ARGUMENT, () -> x.good(1, c, 20));
        }
        int[] days = {-1, 100001, Integer.MIN_VALUE, Integer.MAX_VALUE};
        for (int day : days) {
            dueThrow("good on day " + day, ARGUMENT, () -> x.good(1, 0, day));
        }
    }

    private static void own() {
        OriginRules x = new OriginRules();
        int[] none = {-1, 10, 32, Integer.MIN_VALUE, Integer.MAX_VALUE};
        for (int land : none) {
            dueThrow("own(" + land + ")", ARGUMENT, () -> x.own(land));
        }
        x.join(1, 0);
        x.join(2, 1);
        x.join(3, 4);
        due("own lands", "1100000000", owns(x));
        x.full(true);
        due("own lands, full", "1110000000", owns(x));
        x.join(2, 3);
        due("own lands, one pair more", "1111100000", owns(x));
    }

    private static void count() {
        OriginRules x = with("1:W|C|S;2:W;");
        write(x, "abc");
        x.part(100000, 1, 1);
        x.part(100000, 2, 1);
        x.part(100000, 0, 1);
        x.process(1);
        x.process(4);
        x.join(0, 2);
        x.join(5, 2);
        x.join(5, 6);
        x.proof(0, 0, 0);
        x.verdict(100000, 1);
        int[] due = {3, 2, 3, 1, 18, 3, 1, 3};
        for (int what = 0; what < due.length; what++) {
            due("count(" + what + ")", due[what], x.count(what));
        }
        int[] none = {-1, 8, Integer.MIN_VALUE, Integer.MAX_VALUE};
        for (int what : none) {
            due("count(" + what + ")", -1, x.count(what));
        }
    }
}
