import java.math.BigInteger;
import java.util.ArrayList;
import java.util.Arrays;
import java.util.HashSet;
import java.util.List;
import java.util.Random;
import java.util.Set;

/**
 * Runs of up to 512 chance calls, each on a new object and on a model that was written from the
 * document in another way (rules as trees, text as a grammar that goes down, BigInteger shares).
 * The seed is fixed, so that a run that fails can be had again.
 */
public final class OriginRulesModel {
    private static final int RUNS = 6000;
    private static final long SEED = 20261115L;

    private static int wrong = 0;

    public static void main(String[] args) {
        Random random = new Random(SEED);
        int[] verdicts = new int[4];
        for (int run = 0; run < RUNS && wrong < 20; run++) {
            new Run(run, random, verdicts).go();
        }
        // A run that never meets a verdict or a read would test nothing
        for (int v = 0; v < 4; v++) {
            if (verdicts[v] < 1000) {
                wrong++;
                System.out.println("only " + verdicts[v] + " verdicts of " + v);
            }
        }
        System.out.println(wrong == 0
                ? "all answers are the model's; verdicts " + Arrays.toString(verdicts)
                : wrong + " answers are not the model's");
        if (wrong != 0) {
            System.exit(1);
        }
    }

    private static final class Run {
        final int number;
        final Random random;
        final int[] verdicts;
        final OriginRules x = new OriginRules();
        final Model m = new Model();
        int calls = 0;

        Run(int number, Random random, int[] verdicts) {
            this.number = number;
            this.random = random;
            this.verdicts = verdicts;
        }

        void go() {
            // Without a row all verdicts are 3
            for (int tries = 0; tries < 4 && m.rows.isEmpty() && calls < 200; tries++) {
                writeAndRead();
            }
            while (calls < 512 && wrong < 20) {
                if (random.nextInt(60) == 0 && calls < 200) {
                    writeAndRead();
                } else {
                    oneCall();
                }
            }
        }

        void writeAndRead() {
            String text = Texts.chance(random);
            int most = Math.min(text.length(), 511 - calls);
            for (int i = 0; i < most; i++) {
                call("sign", text.charAt(i), 0, 0);
            }
            call("read", 0, 0, 0);
        }

        void oneCall() {
            switch (random.nextInt(20)) {
                case 0: if (random.nextInt(8) == 0) { call("sign", number(32, 127), 0, 0); } break;
                case 1: call("read", 0, 0, 0); break;
                case 2: case 3: call("part", code(), number(0, 9), cents()); break;
                case 4: if (random.nextInt(4) == 0) { call("clear", 0, 0, 0); } break;
                case 5: call("process", number(0, 15), 0, 0); break;
                case 6: call("bar", number(0, 15), random.nextInt(2), 0); break;
                case 7: if (random.nextInt(3) == 0) { call("join", number(0, 9), number(0, 9), 0); } break;
                case 8: call("full", random.nextInt(2), 0, 0); break;
                case 9: call("tolerance", number(0, 10), number(1, 20), 0); break;
                case 10: case 11: case 12: case 13: call("verdict", code(), cents(), 0); break;
                case 14: case 15: call("why", number(0, 12), 0, 0); break;
                case 16: call("share", cents(), number(0, 1), 0); break;
                case 17: call("proof", number(0, 1), day(), day()); break;
                case 18: call("good", number(0, 19), cents(), day()); break;
                default: if (random.nextInt(4) == 0) { call("own", number(0, 9), 0, 0); }
                    else { call("count", number(0, 7), 0, 0); }
            }
        }

        int number(int low, int high) {
            int kind = random.nextInt(40);
            if (kind == 0) {
                int[] odd = {low - 1, high + 1, Integer.MIN_VALUE, Integer.MAX_VALUE, -high, 32};
                return odd[random.nextInt(odd.length)];
            }
            return low + random.nextInt(high - low + 1);
        }

        /** Few codes, so that parts and goods have the same code, heading or chapter often. */
        int code() {
            int[] few = {110000, 110001, 110100, 120000, 11000, 1, 999999, 210000, 219999};
            int kind = random.nextInt(40);
            return kind == 0 ? number(1, 999999) : few[random.nextInt(few.length)];
        }

        long cents() {
            switch (random.nextInt(12)) {
                case 0: return 0;
                case 1: return 1000000000L;
                case 2: return random.nextInt(1000000001);
                case 3: return number(999999, 1000001);
                case 4: return random.nextInt(20) == 0 ? random.nextLong() : 100;
                case 5: return random.nextInt(20) == 0 ? 1000000001L : 50;
                case 6: return random.nextInt(20) == 0 ? -1 : 10;
                default: return random.nextInt(100);
            }
        }

        int day() {
            return random.nextInt(4) == 0 ? number(0, 100000) : number(0, 10);
        }

        void call(String name, long a, long b, long c) {
            calls++;
            String got = answer(true, name, a, b, c);
            String want = answer(false, name, a, b, c);
            if (name.equals("verdict") && want.length() == 1) {
                verdicts[want.charAt(0) - '0']++;
            }
            if (!got.equals(want)) {
                wrong++;
                System.out.println("run " + number + ", call " + calls + ": " + name + "(" + a + ", "
                        + b + ", " + c + ") answered " + got + ", the model " + want);
            }
        }

        String answer(boolean real, String name, long a, long b, long c) {
            try {
                return String.valueOf(real ? ofClass(name, a, b, c) : ofModel(name, a, b, c));
            } catch (RuntimeException e) {
                return "throws." + e.getClass().getSimpleName();
            }
        }

        Object ofClass(String name, long a, long b, long c) {
            switch (name) {
                case "sign": return x.sign((int) a);
                case "read": return x.read();
                case "part": return x.part((int) a, (int) b, c);
                case "clear": return x.clear();
                case "process": return x.process((int) a);
                case "bar": return x.bar((int) a, b == 1);
                case "join": return x.join((int) a, (int) b);
                case "full": return x.full(a == 1);
                case "tolerance": return x.tolerance((int) a, (int) b);
                case "verdict": return x.verdict((int) a, b);
                case "why": return x.why((int) a);
                case "share": return x.share(a, (int) b);
                case "proof": return x.proof((int) a, (int) b, (int) c);
                case "good": return x.good((int) a, b, (int) c);
                case "own": return x.own((int) a);
                default: return x.count((int) a);
            }
        }

        Object ofModel(String name, long a, long b, long c) {
            switch (name) {
                case "sign": return m.sign((int) a);
                case "read": return m.read();
                case "part": return m.part((int) a, (int) b, c);
                case "clear": return m.clear();
                case "process": return m.process((int) a);
                case "bar": return m.bar((int) a, b == 1);
                case "join": return m.join((int) a, (int) b);
                case "full": return m.full(a == 1);
                case "tolerance": return m.tolerance((int) a, (int) b);
                case "verdict": return m.verdict((int) a, b);
                case "why": return m.why((int) a);
                case "share": return m.share(a, (int) b);
                case "proof": return m.proof((int) a, (int) b, (int) c);
                case "good": return m.good((int) a, b, (int) c);
                case "own": return m.own((int) a);
                default: return m.count((int) a);
            }
        }
    }

    /** Texts that are right, and right ones with a sign put in, changed, or an end cut off. */
    private static final class Texts {
        private static final String SIGNS = "0123456789:;()&|WCHSVP!~wx";

        static String chance(Random random) {
            StringBuilder text = rows(random);
            // Most that are too long are left, since a text that is cut off gives no rules
            for (int again = 0; again < 20 && text.length() > 300 && random.nextInt(8) != 0; again++) {
                text = rows(random);
            }
            if (text.length() > 300) {
                text.setLength(300);
            }
            if (random.nextInt(3) == 0) {
                spoil(random, text);
            }
            return text.toString();
        }

        private static StringBuilder rows(Random random) {
            StringBuilder text = new StringBuilder();
            int rows = random.nextInt(8) == 0 ? 15 + random.nextInt(8) : 1 + random.nextInt(5);
            for (int i = 0; i < rows; i++) {
                String[] beginnings = {"1", "1", "11", "1100", "110000", "0", "0", "01", "9", "2", "2", "21",
                    "12", "00000"};
                text.append(beginnings[random.nextInt(beginnings.length)]).append(':');
                int deepest = rows > 10 ? 0 : random.nextInt(6) == 0 ? 9 : random.nextInt(3);
                rule(random, text, deepest);
                text.append(';');
            }
            return text;
        }

        private static void rule(Random random, StringBuilder text, int depth) {
            int factors = 1 + random.nextInt(depth > 2 ? 2 : 4);
            for (int i = 0; i < factors; i++) {
                if (i > 0) {
                    text.append(random.nextBoolean() ? '&' : '|');
                }
                factor(random, text, depth);
            }
        }

        private static void factor(Random random, StringBuilder text, int depth) {
            if (depth > 0 && random.nextInt(depth > 2 ? 5 : 3) != 0 && text.length() < 280) {
                text.append('(');
                rule(random, text, depth - 1);
                text.append(')');
                return;
            }
            switch (random.nextInt(7)) {
                case 0: text.append('W'); break;
                case 1: text.append('C'); break;
                case 2: text.append('H'); break;
                case 3: text.append('S'); break;
                case 4: text.append('V').append(random.nextInt(random.nextInt(10) == 0 ? 110 : 101)); break;
                case 5: text.append("P0").append(random.nextInt(10)); break;
                default: text.append('P').append(random.nextInt(random.nextInt(10) == 0 ? 18 : 16));
            }
        }

        private static void spoil(Random random, StringBuilder text) {
            int place = random.nextInt(text.length());
            char sign = SIGNS.charAt(random.nextInt(SIGNS.length()));
            switch (random.nextInt(4)) {
                case 0: text.setLength(place); break;
                case 1: text.setCharAt(place, sign); break;
                case 2: text.deleteCharAt(place); break;
                default: text.insert(place, sign);
            }
        }
    }

    /** A rule as a tree: a letter with its place and number, or all of, or one of, several. */
    private static final class Tree {
        final char kind;
        final int place;
        int number = 0;
        final List<Tree> under = new ArrayList<>();

        Tree(char kind, int place) {
            this.kind = kind;
            this.place = place;
        }
    }

    private static final class Row {
        String digits;
        Tree rule;
    }

    /** Goes down the grammar; what stops it is the place that it throws. */
    private static final class Grammar {
        static final class Stop extends Exception {
            private static final long serialVersionUID = 1L;
            final int place;

            Stop(int place) {
                this.place = place;
            }
        }

        final String text;
        int at = 0;
        int rowStart = 0;

        Grammar(String text) {
            this.text = text;
        }

        List<Row> rows() throws Stop {
            List<Row> rows = new ArrayList<>();
            do {
                if (rows.size() == 20) {
                    throw new Stop(at);
                }
                rowStart = at;
                Row row = new Row();
                row.digits = digits(6);
                want(':');
                row.rule = rule(0);
                want(';');
                rows.add(row);
            } while (at < text.length());
            return rows;
        }

        private boolean sees(String signs) {
            return at < text.length() && signs.indexOf(text.charAt(at)) >= 0;
        }

        private void want(char c) throws Stop {
            if (!sees(String.valueOf(c))) {
                throw new Stop(at);
            }
            at++;
        }

        private String digits(int most) throws Stop {
            int from = at;
            while (sees("0123456789")) {
                if (at - from == most) {
                    throw new Stop(at);
                }
                at++;
            }
            if (at == from) {
                throw new Stop(at);
            }
            return text.substring(from, at);
        }

        private Tree rule(int depth) throws Stop {
            Tree tree = new Tree('|', at);
            tree.under.add(term(depth));
            while (sees("|")) {
                at++;
                tree.under.add(term(depth));
            }
            return tree;
        }

        private Tree term(int depth) throws Stop {
            Tree tree = new Tree('&', at);
            tree.under.add(factor(depth));
            while (sees("&")) {
                at++;
                tree.under.add(factor(depth));
            }
            return tree;
        }

        private Tree factor(int depth) throws Stop {
            if (sees("(")) {
                if (depth == 8) {
                    throw new Stop(at);
                }
                at++;
                Tree inner = rule(depth + 1);
                want(')');
                return inner;
            }
            if (!sees("WCHSVP")) {
                throw new Stop(at);
            }
            Tree letter = new Tree(text.charAt(at), at - rowStart);
            at++;
            if (letter.kind == 'V' || letter.kind == 'P') {
                letter.number = Integer.parseInt(digits(letter.kind == 'V' ? 3 : 2));
                if (letter.number > (letter.kind == 'V' ? 100 : 15)) {
                    throw new Stop(at);
                }
            }
            return letter;
        }
    }

    private static final class Model {
        final StringBuilder text = new StringBuilder();
        List<Row> rows = new ArrayList<>();
        final List<long[]> parts = new ArrayList<>();
        final Set<Integer> done = new HashSet<>();
        final Set<Integer> barred = new HashSet<>();
        final Set<Set<Integer>> pairs = new HashSet<>();
        final List<int[]> proofs = new ArrayList<>();
        boolean full = false;
        int up = 0;
        int down = 1;
        List<Integer> asked = new ArrayList<>();

        private static void need(boolean is) {
            if (!is) {
                throw new IllegalArgumentException();
            }
        }

        private static boolean within(long n, long low, long high) {
            return low <= n && n <= high;
        }

        boolean sign(int c) {
            if (!within(c, 33, 126) || text.length() == 300) {
                return false;
            }
            text.append((char) c);
            return true;
        }

        int read() {
            String whole = text.toString();
            text.setLength(0);
            try {
                rows = new Grammar(whole).rows();
                return rows.size();
            } catch (Grammar.Stop stop) {
                return -1 - stop.place;
            }
        }

        int part(int code, int land, long cents) {
            need(within(code, 1, 999999) && within(land, 0, 9) && within(cents, 0, 1000000000));
            if (parts.size() == 12) {
                throw new IllegalStateException();
            }
            parts.add(new long[] {code, land, cents});
            return parts.size();
        }

        int clear() {
            int before = parts.size();
            parts.clear();
            done.clear();
            return before;
        }

        boolean process(int p) {
            return within(p, 0, 15) && done.add(p);
        }

        boolean bar(int p, boolean is) {
            return within(p, 0, 15) && (is ? barred.add(p) : barred.remove(p));
        }

        int join(int land, int other) {
            need(within(land, 0, 9) && within(other, 0, 9) && land != other);
            return pairs.add(Set.of(land, other)) ? 1 : 0;
        }

        boolean full(boolean is) {
            boolean changes = full != is;
            full = is;
            return changes;
        }

        boolean tolerance(int u, int d) {
            if (!within(d, 1, 1000) || !within(u, 0, d)) {
                return false;
            }
            up = u;
            down = d;
            return true;
        }

        boolean own(int land) {
            need(within(land, 0, 9));
            return reaches(land, new HashSet<>());
        }

        private boolean reaches(int land, Set<Integer> seen) {
            if (land == 0 || pairs.contains(Set.of(0, land))) {
                return true;
            }
            seen.add(land);
            for (int other = 1; full && other < 10; other++) {
                if (!seen.contains(other) && pairs.contains(Set.of(land, other)) && reaches(other, seen)) {
                    return true;
                }
            }
            return false;
        }

        private List<long[]> foreign() {
            List<long[]> all = new ArrayList<>();
            for (long[] part : parts) {
                if (!own((int) part[1])) {
                    all.add(part);
                }
            }
            return all;
        }

        private static BigInteger sum(List<long[]> some) {
            BigInteger sum = BigInteger.ZERO;
            for (long[] part : some) {
                sum = sum.add(BigInteger.valueOf(part[2]));
            }
            return sum;
        }

        /** Whether some / price is not above upper / lower. */
        private static boolean notAbove(BigInteger some, long price, int upper, int lower) {
            return some.multiply(BigInteger.valueOf(lower))
                    .compareTo(BigInteger.valueOf(price).multiply(BigInteger.valueOf(upper))) <= 0;
        }

        private static String six(long code) {
            return String.format("%06d", code);
        }

        int verdict(int code, long price) {
            need(within(code, 1, 999999) && within(price, 0, 1000000000));
            Row best = null;
            for (Row row : rows) {
                boolean longer = best == null || row.digits.length() >= best.digits.length();
                if (six(code).startsWith(row.digits) && longer) {
                    best = row;
                }
            }
            if (best == null) {
                return 3;
            }
            if (!done.isEmpty() && barred.containsAll(done)) {
                return 2;
            }
            asked = new ArrayList<>();
            return holds(best.rule, code, price) ? 1 : 0;
        }

        private boolean holds(Tree tree, int code, long price) {
            if (tree.kind == '|' || tree.kind == '&') {
                boolean ends = tree.kind == '|';
                for (Tree part : tree.under) {
                    if (holds(part, code, price) == ends) {
                        return ends;
                    }
                }
                return !ends;
            }
            boolean held = letterHolds(tree, code, price);
            asked.add(tree.place * 2 + (held ? 1 : 0));
            return held;
        }

        private boolean letterHolds(Tree letter, int code, long price) {
            switch (letter.kind) {
                case 'W': return parts.isEmpty();
                case 'V': return price != 0 && notAbove(sum(foreign()), price, letter.number, 100);
                case 'P': return done.contains(letter.number);
                default:
            }
            int digits = letter.kind == 'C' ? 2 : letter.kind == 'H' ? 4 : 6;
            List<long[]> same = new ArrayList<>();
            for (long[] part : foreign()) {
                if (six(part[0]).substring(0, digits).equals(six(code).substring(0, digits))) {
                    same.add(part);
                }
            }
            return same.isEmpty() || notAbove(sum(same), price, up, down);
        }

        int why(int i) {
            return within(i, 0, asked.size() - 1) ? asked.get(i) : -1;
        }

        long share(long price, int side) {
            need(within(price, 0, 1000000000) && within(side, 0, 1));
            if (price == 0) {
                throw new ArithmeticException();
            }
            BigInteger upper = sum(foreign());
            BigInteger lower = BigInteger.valueOf(price);
            return (side == 0 ? upper : lower).divide(upper.gcd(lower)).longValueExact();
        }

        int proof(int kind, int from, int to) {
            need(within(kind, 0, 1) && within(from, 0, 100000) && within(to, from, 100000));
            if (proofs.size() == 20) {
                throw new IllegalStateException();
            }
            proofs.add(new int[] {kind, from, to});
            return proofs.size() - 1;
        }

        boolean good(int proof, long cents, int day) {
            need(within(proof, 0, proofs.size() - 1) && within(cents, 0, 1000000000) && within(day, 0, 100000));
            int[] p = proofs.get(proof);
            return within(day, p[1], p[2]) && (p[0] == 1 || cents <= 1000000);
        }

        int count(int what) {
            int bits = 0;
            for (int p : done) {
                bits += 1 << p;
            }
            int[] all = {text.length(), rows.size(), parts.size(), foreign().size(), bits,
                pairs.size(), proofs.size(), asked.size()};
            return within(what, 0, 7) ? all[what] : -1;
        }
    }
}
