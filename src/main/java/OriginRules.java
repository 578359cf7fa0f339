/**
 * Origin of goods: whether a good made of parts from several lands is originating by the rule
 * of its code, and which factors of that rule were asked for the verdict.
 */
public final class OriginRules {
    public static final int NONE = -1;

    private static final int FIRST_SIGN = 33;
    private static final int LAST_SIGN = 126;
    private static final int MOST_SIGNS = 300;
    private static final int MOST_ROWS = 20;
    private static final int MOST_BRACKETS = 8;
    // No row asks more: 300 signs are 1: and 149 factors with 148 signs between them and the ;
    private static final int MOST_FACTORS = 149;

    private static final int LAST_CODE = 999999;
    private static final int CODE_DIGITS = 6;
    private static final int HEADING_DIGITS = 4;
    private static final int CHAPTER_DIGITS = 2;

    private static final int MOST_HUNDREDTHS = 100;
    private static final int HUNDREDTHS_DIGITS = 3;
    private static final int LAST_PROCESS = 15;
    private static final int PROCESS_DIGITS = 2;

    private static final int LANDS = 10;
    private static final int OWN_LAND = 0;
    private static final int MOST_PARTS = 12;
    private static final long MOST_CENTS = 1000000000L;
    private static final int MOST_DOWN = 1000;

    private static final int MOST_PROOFS = 20;
    private static final int CERTIFICATE = 0;
    private static final int APPROVED = 1;
    private static final long CERTIFICATE_CENTS = 1000000L;
    private static final int LAST_DAY = 100000;

    // Euclid's steps for two longs are fewer than this
    private static final int MOST_STEPS = 100;

    private static final int DOES_NOT_HOLD = 0;
    private static final int HOLDS = 1;
    private static final int BARRED_WORKS = 2;
    private static final int NO_RULE = 3;

    private final Text text = new Text();
    private final Rows rows = new Rows();
    private final Parts parts = new Parts();
    private final Lands lands = new Lands();
    private final Proofs proofs = new Proofs();
    private int processesDone = 0;
    private int processesBarred = 0;
    private int toleranceUp = 0;
    private int toleranceDown = 1;
    private final int[] answers = new int[MOST_FACTORS];
    private int asked = 0;

    public OriginRules() {
    }

    public boolean sign(int c) {
        if (c < FIRST_SIGN || c > LAST_SIGN || text.length >= MOST_SIGNS) {
            return false;
        }
        text.add((char) c);
        return true;
    }

    public int read() {
        int answer = text.rowsOrWrongPlace();
        if (answer > 0) {
            rows.replace(text.signs, text.length, answer);
        }
        text.length = 0;
        return answer;
    }

    public int part(int code, int land, long cents)
            throws IllegalArgumentException, IllegalStateException {
        if (!isCode(code) || !isLand(land) || !isCents(cents)) {
            throw new IllegalArgumentException("no such code, land or cents");
        }
        if (parts.size >= MOST_PARTS) {
            throw new IllegalStateException("there are 12 parts");
        }
        return parts.add(code, land, cents);
    }

    public int clear() {
        processesDone = 0;
        return parts.forget();
    }

    public boolean process(int p) {
        if (!isProcess(p) || hasBit(processesDone, p)) {
            return false;
        }
        processesDone |= 1 << p;
        return true;
    }

    public boolean bar(int p, boolean is) {
        if (!isProcess(p) || hasBit(processesBarred, p) == is) {
            return false;
        }
        processesBarred ^= 1 << p;
        return true;
    }

    public int join(int land, int other) throws IllegalArgumentException {
        if (!isLand(land) || !isLand(other) || land == other) {
            throw new IllegalArgumentException("no such lands, or one land");
        }
        return lands.addPair(land, other) ? 1 : 0;
    }

    public boolean full(boolean is) {
        if (lands.isFull == is) {
            return false;
        }
        lands.isFull = is;
        return true;
    }

    public boolean tolerance(int up, int down) {
        if (down < 1 || down > MOST_DOWN || up < 0 || up > down) {
            return false;
        }
        toleranceUp = up;
        toleranceDown = down;
        return true;
    }

    public int verdict(int code, long price) throws IllegalArgumentException {
        if (!isCode(code) || !isCents(price)) {
            throw new IllegalArgumentException("no such code or price");
        }
        int start = rows.startFor(code);
        if (start == NONE) {
            return NO_RULE;
        }
        if (processesDone != 0 && (processesDone & ~processesBarred) == 0) {
            return BARRED_WORKS;
        }
        return ruleHolds(start, code, price) ? HOLDS : DOES_NOT_HOLD;
    }

    public int why(int i) {
        return i >= 0 && i < asked ? answers[i] : NONE;
    }

    public long share(long price, int side)
            throws IllegalArgumentException, ArithmeticException {
        if (!isCents(price) || side < 0 || side > 1) {
            throw new IllegalArgumentException("no such price or side");
        }
        if (price == 0) {
            throw new ArithmeticException("a share of a price of 0");
        }
        long foreign = parts.foreignCents(lands.ownLands());
        long divisor = Math.max(1L, greatestDivisor(foreign, price));
        return (side == 0 ? foreign : price) / divisor;
    }

    public int proof(int kind, int from, int to)
            throws IllegalArgumentException, IllegalStateException {
        if (kind < CERTIFICATE || kind > APPROVED || !isDay(from) || !isDay(to) || from > to) {
            throw new IllegalArgumentException("no such kind or days");
        }
        if (proofs.size >= MOST_PROOFS) {
            throw new IllegalStateException("there are 20 proofs");
        }
        return proofs.add(kind, from, to);
    }

    public boolean good(int proof, long cents, int day) throws IllegalArgumentException {
        if (proof < 0 || proof >= proofs.size || !isCents(cents) || !isDay(day)) {
            throw new IllegalArgumentException("no such proof, value or day");
        }
        return proofs.isGood(proof, cents, day);
    }

    public boolean own(int land) throws IllegalArgumentException {
        if (!isLand(land)) {
            throw new IllegalArgumentException("no such land");
        }
        return hasBit(lands.ownLands(), land);
    }

    public int count(int what) {
        switch (what) {
            case 0:
                return text.length;
            case 1:
                return rows.size;
            case 2:
                return parts.size;
            case 3:
                return parts.foreignParts(lands.ownLands());
            case 4:
                return processesDone;
            case 5:
                return lands.pairs;
            case 6:
                return proofs.size;
            case 7:
                return asked;
            default:
                return NONE;
        }
    }

    /**
     * Goes once through the rule of the row at start, with one value for all brackets: what is
     * asked behind a & had all ahead of it hold, and behind a | none, so the factor asked last
     * alone tells its term's value, its rule's, and that of the bracket round them. Where that
     * value decides what comes next, it is skipped up to where the value counts again.
     */
    private boolean ruleHolds(int start, int code, long price) {
        boolean held = false;
        boolean skipping = false;
        int brackets = 0;
        asked = 0;
        for (int place = start; place < rows.length && rows.signs[place] != ';'; place++) {
            char c = rows.signs[place];
            if (skipping) {
                if (brackets == 0 && (c == ')' || c == '|' && !held)) {
                    skipping = false;
                } else if (c == '(') {
                    brackets++;
                } else if (c == ')') {
                    brackets--;
                }
            } else if (isLetter(c)) {
                held = factorHolds(place, code, price);
                keepAnswer(place - start, held);
            } else if (c == '&' && !held || c == '|' && held) {
                skipping = true;
            }
        }
        return held;
    }

    private void keepAnswer(int placeInRow, boolean held) {
        if (asked < MOST_FACTORS) {
            answers[asked] = 2 * placeInRow + (held ? 1 : 0);
            asked++;
        }
    }

    private boolean factorHolds(int place, int code, long price) {
        char letter = rows.signs[place];
        if (letter == 'W') {
            return parts.size == 0;
        }
        if (letter == 'C') {
            return isChanged(code, CHAPTER_DIGITS, price);
        }
        if (letter == 'H') {
            return isChanged(code, HEADING_DIGITS, price);
        }
        if (letter == 'S') {
            return isChanged(code, CODE_DIGITS, price);
        }
        int number = rows.numberAt(place + 1);
        return letter == 'V' ? isShareWithin(number, price) : hasBit(processesDone, number);
    }

    /** Without unchanged foreign parts their cents are 0, which every tolerance lets through. */
    private boolean isChanged(int code, int digits, long price) {
        long unchanged = parts.foreignCentsAlike(lands.ownLands(), code, digits);
        return unchanged * toleranceDown <= toleranceUp * price;
    }

    private boolean isShareWithin(int hundredths, long price) {
        long foreign = parts.foreignCents(lands.ownLands());
        return price > 0 && foreign * MOST_HUNDREDTHS <= hundredths * price;
    }

    private static boolean isCode(int code) {
        return code >= 1 && code <= LAST_CODE;
    }

    private static boolean isLand(int land) {
        return land >= 0 && land < LANDS;
    }

    private static boolean isCents(long cents) {
        return cents >= 0 && cents <= MOST_CENTS;
    }

    private static boolean isProcess(int p) {
        return p >= 0 && p <= LAST_PROCESS;
    }

    private static boolean isDay(int day) {
        return day >= 0 && day <= LAST_DAY;
    }

    private static boolean isDigit(char c) {
        return c >= '0' && c <= '9';
    }

    private static boolean isLetter(char c) {
        return c >= 'A' && c <= 'Z';
    }

    private static boolean hasBit(int bits, int i) {
        return (bits >> i & 1) == 1;
    }

    /** The number that the first of a code's six digits make. */
    private static int beginning(int code, int digits) {
        int rest = code;
        for (int i = digits; i < CODE_DIGITS; i++) {
            rest /= 10;
        }
        return rest;
    }

    private static long greatestDivisor(long upper, long lower) {
        long divisor = upper;
        long rest = lower;
        for (int step = 0; step < MOST_STEPS && rest != 0; step++) {
            long next = divisor % rest;
            divisor = rest;
            rest = next;
        }
        return divisor;
    }

    /** The text as it is collected; reading it, place stops on the first wrong one. */
    private static final class Text {
        private final char[] signs = new char[MOST_SIGNS];
        private int length = 0;
        private int place = 0;

        void add(char c) {
            signs[length] = c;
            length++;
        }

        int rowsOrWrongPlace() {
            place = 0;
            for (int found = 1; found <= MOST_ROWS && passesRow(); found++) {
                if (place == length) {
                    return found;
                }
            }
            return -1 - place;
        }

        private boolean passesRow() {
            return passesDigits(CODE_DIGITS, LAST_CODE) && passesSign(':') && passesRule();
        }

        /** With the ; behind it. Brackets need a depth alone: a rule is alike in and out of them. */
        private boolean passesRule() {
            int depth = 0;
            for (int factors = 0; factors < length; factors++) {
                while (depth < MOST_BRACKETS && passesSign('(')) {
                    depth++;
                }
                if (!passesFactor()) {
                    return false;
                }
                while (depth > 0 && passesSign(')')) {
                    depth--;
                }
                if (depth == 0 && passesSign(';')) {
                    return true;
                }
                if (!passesSign('&') && !passesSign('|')) {
                    return false;
                }
            }
            return false;
        }

        private boolean passesFactor() {
            if (passesSign('V')) {
                return passesDigits(HUNDREDTHS_DIGITS, MOST_HUNDREDTHS);
            }
            if (passesSign('P')) {
                return passesDigits(PROCESS_DIGITS, LAST_PROCESS);
            }
            return passesSign('W') || passesSign('C') || passesSign('H') || passesSign('S');
        }

        /** A digit too many is left for what comes next, which can't begin with one. */
        private boolean passesDigits(int most, int top) {
            int digits = 0;
            int value = 0;
            while (digits < most && place < length && isDigit(signs[place])) {
                value = value * 10 + (signs[place] - '0');
                digits++;
                place++;
            }
            return digits > 0 && value <= top;
        }

        private boolean passesSign(char c) {
            if (place >= length || signs[place] != c) {
                return false;
            }
            place++;
            return true;
        }
    }

    /** The text that was read last as a whole; a row in it is told by the place of its start. */
    private static final class Rows {
        private final char[] signs = new char[MOST_SIGNS];
        private int length = 0;
        private int size = 0;

        void replace(char[] text, int textLength, int rowsOfText) {
            System.arraycopy(text, 0, signs, 0, textLength);
            length = textLength;
            size = rowsOfText;
        }

        int startFor(int code) {
            int best = NONE;
            int most = 0;
            int start = 0;
            for (int place = 0; place < length; place++) {
                int digits = place - start;
                if (signs[place] == ';') {
                    start = place + 1;
                } else if (signs[place] == ':' && digits >= most
                        && beginning(code, digits) == numberAt(start)) {
                    best = start;
                    most = digits;
                }
            }
            return best;
        }

        int numberAt(int start) {
            int value = 0;
            for (int place = start; place < length && isDigit(signs[place]); place++) {
                value = value * 10 + (signs[place] - '0');
            }
            return value;
        }
    }

    /** Own lands come to it as bits, since they change without the parts. */
    private static final class Parts {
        private final int[] codes = new int[MOST_PARTS];
        private final int[] landOf = new int[MOST_PARTS];
        private final long[] centsOf = new long[MOST_PARTS];
        private int size = 0;

        int add(int code, int land, long cents) {
            codes[size] = code;
            landOf[size] = land;
            centsOf[size] = cents;
            size++;
            return size;
        }

        int forget() {
            int before = size;
            size = 0;
            return before;
        }

        int foreignParts(int ownLands) {
            int found = 0;
            for (int i = 0; i < size; i++) {
                if (!hasBit(ownLands, landOf[i])) {
                    found++;
                }
            }
            return found;
        }

        long foreignCents(int ownLands) {
            long sum = 0;
            for (int i = 0; i < size; i++) {
                if (!hasBit(ownLands, landOf[i])) {
                    sum += centsOf[i];
                }
            }
            return sum;
        }

        long foreignCentsAlike(int ownLands, int code, int digits) {
            int wanted = beginning(code, digits);
            long sum = 0;
            for (int i = 0; i < size; i++) {
                if (!hasBit(ownLands, landOf[i]) && beginning(codes[i], digits) == wanted) {
                    sum += centsOf[i];
                }
            }
            return sum;
        }
    }

    /** For each land the bits of those that it is joined to. */
    private static final class Lands {
        private final int[] joined = new int[LANDS];
        private int pairs = 0;
        private boolean isFull = false;

        boolean addPair(int land, int other) {
            if (hasBit(joined[land], other)) {
                return false;
            }
            joined[land] |= 1 << other;
            joined[other] |= 1 << land;
            pairs++;
            return true;
        }

        int ownLands() {
            int own = 1 << OWN_LAND | joined[OWN_LAND];
            // A chain of pairs without a land twice has fewer pairs than there are lands
            for (int round = 0; isFull && round < LANDS; round++) {
                for (int land = 0; land < LANDS; land++) {
                    if (hasBit(own, land)) {
                        own |= joined[land];
                    }
                }
            }
            return own;
        }
    }

    private static final class Proofs {
        private final int[] kinds = new int[MOST_PROOFS];
        private final int[] firstDays = new int[MOST_PROOFS];
        private final int[] lastDays = new int[MOST_PROOFS];
        private int size = 0;

        int add(int kind, int from, int to) {
            kinds[size] = kind;
            firstDays[size] = from;
            lastDays[size] = to;
            size++;
            return size - 1;
        }

        boolean isGood(int i, long cents, int day) {
            boolean covered = kinds[i] == APPROVED || cents <= CERTIFICATE_CENTS;
            return covered && day >= firstDays[i] && day <= lastDays[i];
        }
    }
}
