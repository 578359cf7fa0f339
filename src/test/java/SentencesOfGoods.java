/** Promises 4 to 10 and 16: parts, processes, barred works, joined lands and tolerance. */
public final class SentencesOfGoods extends Sentences {
    public static void main(String[] args) {
        part();
        clear();
        process();
        bar();
        join();
        full();
        tolerance();
        own();
        end();
    }

    private static void part() {
        test(4, "One more PART: how many there are", SentencesOfGoods::partTellsHowMany);
        test(4, "IllegalArgumentException if its numbers can't be", "CODES are numbers 1 .. 999999",
                SentencesOfGoods::partCodes);
        test(4, "IllegalArgumentException if its numbers can't be", "LANDS 0 .. 9",
                SentencesOfGoods::partLands);
        test(4, "IllegalArgumentException if its numbers can't be", "CENTS 0 .. 1000000000",
                SentencesOfGoods::partCents);
        test(4, "IllegalStateException if there are 12", SentencesOfGoods::part13);
        test(4, "Of several exceptions the one told first is thrown",
                SentencesOfGoods::part13WithWrongNumbers);
        test(4, "A part is FOREIGN if its land is not own and none that counts as own",
                SentencesOfGoods::foreignParts);
        test(4, "what else throws or is refused changes nothing", SentencesOfGoods::refusedPart);
    }

    private static void clear() {
        test(5, "how many parts there were", SentencesOfGoods::clearTellsHowMany);
        test(5, "All parts and processes that were done are forgotten", "the parts",
                SentencesOfGoods::clearForgetsParts);
        test(5, "All parts and processes that were done are forgotten", "the processes",
                SentencesOfGoods::clearForgetsProcesses);
        test(5, "All parts and processes that were done are forgotten", "and nothing else",
                SentencesOfGoods::clearForgetsNothingElse);
    }

    private static void process() {
        test(6, "A PROCESS was done: true", SentencesOfGoods::processDone);
        test(6, "false if there is none such, or it was", "none such", SentencesOfGoods::processThatIsNone);
        test(6, "false if there is none such, or it was", "it was", SentencesOfGoods::processTwice);
        test(6, "what else throws or is refused changes nothing", SentencesOfGoods::refusedProcess);
    }

    private static void bar() {
        test(7, "A process is BARRED, or not: true", SentencesOfGoods::barEach);
        test(7, "false if there is none such, or it is so", "none such", SentencesOfGoods::barThatIsNone);
        test(7, "false if there is none such, or it is so", "it is so", SentencesOfGoods::barTwice);
        test(7, "what else throws or is refused changes nothing", SentencesOfGoods::refusedBar);
    }

    private static void join() {
        test(8, "Lands are JOINED: 1", SentencesOfGoods::joinAll);
        test(8, "pairs of lands (45 at most)", SentencesOfGoods::joinAll45);
        test(8, "0 if they are", SentencesOfGoods::joinTwice);
        test(8, "IllegalArgumentException if there are none such, or they are one", "none such",
                SentencesOfGoods::joinOfNone);
        test(8, "IllegalArgumentException if there are none such, or they are one", "they are one",
                SentencesOfGoods::joinOfOne);
        test(8, "what else throws or is refused changes nothing", SentencesOfGoods::refusedJoin);
    }

    private static void full() {
        test(9, "Cumulation is FULL, or not: true", SentencesOfGoods::fullAndNot);
        test(9, "false if it is so", SentencesOfGoods::fullTwice);
        test(9, "and whatever is joined to those, if cumulation is FULL", SentencesOfGoods::fullChain);
        test(9, "what else throws or is refused changes nothing", SentencesOfGoods::refusedFull);
    }

    private static void tolerance() {
        test(10, "TOLERANCE: true", SentencesOfGoods::toleranceOfAll);
        test(10, "false if down is not 1 .. 1000, or up not 0 .. down", "down",
                SentencesOfGoods::toleranceDown);
        test(10, "false if down is not 1 .. 1000, or up not 0 .. down", "up", SentencesOfGoods::toleranceUp);
        test(10, "TOLERANCE up / down (0 / 1 at first)", SentencesOfGoods::toleranceAtFirst);
        test(10, "what else throws or is refused changes nothing", SentencesOfGoods::refusedTolerance);
    }

    private static void own() {
        test(16, "land 0 is the good's own", SentencesOfGoods::ownOfLandZero);
        test(16, "else those that are joined to land 0 directly", SentencesOfGoods::ownDirectly);
        test(16, "and whatever is joined to those, if cumulation is FULL", "own lands",
                SentencesOfGoods::ownByFull);
        test(16, "IllegalArgumentException if there is none such", SentencesOfGoods::ownOfNone);
        test(16, "what else throws or is refused changes nothing", SentencesOfGoods::refusedOwn);
    }

    private static void parts(OriginRules x, int n) {
        for (int i = 0; i < n; i++) {
            x.part(500000 + i, 5, 7);
        }
    }

    private static OriginRules with12Parts() {
        OriginRules x = busy();
        parts(x, 8);
        return x;
    }

    private static void partTellsHowMany() {
        OriginRules x = new OriginRules();
        for (int i = 1; i <= 12; i++) {
            due("part " + i, i, x.part(123456, i % 10, 5));
            due("count(2)", i, x.count(2));
        }
        x.clear();
        due("a part after clear()", 1, x.part(1, 1, 1));
        due("one alike", 2, x.part(1, 1, 1));
    }

    private static void partCodes() {
        OriginRules x = new OriginRules();
        for (int code : NO_CODES) {
            dueThrow("part of code " + code, ARGUMENT, () -> x.part(code, 0, 0));
        }
        due("the least code", 1, x.part(1, 0, 0));
        due("the greatest code", 2, x.part(999999, 0, 0));
    }

    private static void partLands() {
        OriginRules x = new OriginRules();
        for (int land : NO_LANDS) {
            dueThrow("part of land " + land, ARGUMENT, () -> x.part(1, land, 0));
        }
        for (int land = 0; land <= 9; land++) {
            due("land " + land, land + 1, x.part(1, land, 0));
        }
    }

    private static void partCents() {
        OriginRules x = new OriginRules();
        for (long cents : NO_CENTS) {
            dueThrow("part of cents " + cents, ARGUMENT, () -> x.part(1, 1, cents));
        }
        due("the least cents", 1, x.part(1, 1, 0));
        due("share", "0 / 1", share(x, 1));
        due("the most cents", 2, x.part(1, 1, 1000000000L));
        due("share with the most", "1000000000 / 1", share(x, 1));
    }

    private static void part13() {
        OriginRules x = new OriginRules();
        parts(x, 12);
        dueThrow("part 13", STATE, () -> x.part(1, 0, 0));
        dueThrow("part 13 of the greatest numbers", STATE, () -> x.part(999999, 9, 1000000000L));
        dueThrow("part 13 like another", STATE, () -> x.part(500000, 5, 7));
        due("count(2)", 12, x.count(2));
        due("share", "84 / 1", share(x, 1));
        due("clear()", 12, x.clear());
        due("a part after clear()", 1, x.part(1, 0, 0));
    }

    private static void part13WithWrongNumbers() {
        OriginRules x = new OriginRules();
        parts(x, 12);
        for (int code : NO_CODES) {
            dueThrow("part 13 of code " + code, ARGUMENT, () -> x.part(code, 0, 0));
        }
        for (int land : NO_LANDS) {
            dueThrow("part 13 of land " + land, ARGUMENT, () -> x.part(1, land, 0));
        }
        for (long cents : NO_CENTS) {
            dueThrow("part 13 of cents " + cents, ARGUMENT, () -> x.part(1, 0, cents));
        }
    }

    private static void foreignParts() {
        OriginRules x = new OriginRules();
        for (int land = 0; land <= 9; land++) {
            x.part(1, land, 1 << land);
        }
        due("all but land 0", 9, x.count(3));
        due("share", "1022 / 1", share(x, 1));
        x.join(4, 0);
        x.join(4, 9);
        due("joined to land 0", 8, x.count(3));
        due("share without land 4", "1006 / 1", share(x, 1));
        x.full(true);
        due("joined to what is joined", 7, x.count(3));
        due("share without land 9", "494 / 1", share(x, 1));
        x.full(false);
        due("no longer full", 8, x.count(3));
        due("parts", 10, x.count(2));
    }

    private static void refusedPart() {
        dueRefused(Sentences::busy, "throws " + ARGUMENT, x -> x.part(0, 1, 1));
        dueRefused(Sentences::busy, "throws " + ARGUMENT, x -> x.part(1, 10, 1));
        dueRefused(Sentences::busy, "throws " + ARGUMENT, x -> x.part(1, 1, -1));
        dueRefused(SentencesOfGoods::with12Parts, "throws " + STATE, x -> x.part(110000, 1, 1));
        dueRefused(SentencesOfGoods::with12Parts, "throws " + ARGUMENT, x -> x.part(110000, -1, 1));
    }

    private static void clearTellsHowMany() {
        OriginRules x = new OriginRules();
        for (int n = 0; n <= 12; n++) {
            parts(x, n);
            due("clear() of " + n, n, x.clear());
            due("clear() again", 0, x.clear());
        }
    }

    private static void clearForgetsParts() {
        OriginRules x = with("1:W;2:C;3:V0;");
        x.part(200000, 1, 5);
        x.clear();
        due("count(2)", 0, x.count(2));
        due("count(3)", 0, x.count(3));
        due("share", "0 / 1", share(x, 5));
        due("wholly obtained", 1, x.verdict(100000, 5));
        due("no part of the chapter", 1, x.verdict(200000, 5));
        due("no foreign share", 1, x.verdict(300000, 5));
        due("the next part", 1, x.part(1, 2, 3));
        due("its share alone", "3 / 5", share(x, 5));
    }

    private static void clearForgetsProcesses() {
        OriginRules x = with("1:P0|P15;2:W;");
        processes(x, 0, 15);
        x.bar(0, true);
        x.bar(15, true);
        due("barred works", 2, x.verdict(200000, 0));
        due("clear() without parts", 0, x.clear());
        due("count(4)", 0, x.count(4));
        due("no barred works, since none was done", 1, x.verdict(200000, 0));
        due("none was done", 0, x.verdict(100000, 0));
        processes(x, 0, 15);
        due("barred works again", 2, x.verdict(100000, 0));
    }

    private static void clearForgetsNothingElse() {
        OriginRules x = busy();
        x.full(true);
        String asked = why(x);
        due("clear()", 4, x.clear());
        int[] counts = {3, 3, 0, 0, 0, 2, 2, 2};
        for (int what = 0; what < 8; what++) {
            due("count(" + what + ")", counts[what], x.count(what));
        }
        due("why", asked, why(x));
        due("own lands", "1011000000", owns(x));
        due("full(true)", false, x.full(true));
        due("bar(9, true)", false, x.bar(9, true));
        due("bar(4, true)", false, x.bar(4, true));
        due("bar(3, false)", false, x.bar(3, false));
        due("the first proof", true, x.good(0, 1000000, 10));
        due("the second proof", true, x.good(1, 1000001, 11));
        x.part(120000, 1, 3);
        due("within the tolerance", 1, x.verdict(120000, 60));
        due("above the tolerance", 0, x.verdict(120000, 59));
        due("the text", 1, read(x, ";"));
    }

    private static void processDone() {
        OriginRules x = new OriginRules();
        for (int p = 0; p <= 15; p++) {
            due("process(" + p + ")", true, x.process(p));
            due("count(4)", (2 << p) - 1, x.count(4));
        }
        OriginRules y = new OriginRules();
        for (int p = 15; p >= 0; p--) {
            y.clear();
            due("process(" + p + ") alone", true, y.process(p));
            due("count(4) of it", 1 << p, y.count(4));
        }
    }

    private static void processThatIsNone() {
        OriginRules x = new OriginRules();
        for (int p : NO_PROCESSES) {
            due("process(" + p + ")", false, x.process(p));
            due("count(4)", 0, x.count(4));
        }
    }

    private static void processTwice() {
        OriginRules x = new OriginRules();
        for (int p = 0; p <= 15; p++) {
            x.process(p);
            due("process(" + p + ") again", false, x.process(p));
        }
        due("count(4)", 65535, x.count(4));
        x.clear();
        due("process(0) after clear()", true, x.process(0));
        due("process(0) once more", false, x.process(0));
    }

    private static void refusedProcess() {
        for (int p : NO_PROCESSES) {
            dueRefused(Sentences::busy, "false", x -> x.process(p));
        }
        dueRefused(Sentences::busy, "false", x -> x.process(3));
        dueRefused(Sentences::busy, "false", x -> x.process(9));
    }

    private static void barEach() {
        OriginRules x = with("1:W|W;");
        for (int p = 0; p <= 15; p++) {
            x.process(p);
            due("one that is not barred, " + p, 1, x.verdict(100000, 0));
            due("bar(" + p + ", true)", true, x.bar(p, true));
            due("all are barred, " + p, 2, x.verdict(100000, 0));
        }
        for (int p = 0; p <= 15; p++) {
            due("bar(" + p + ", false)", true, x.bar(p, false));
            due("all but " + p + " are barred", 1, x.verdict(100000, 0));
            due("bar(" + p + ", true) again", true, x.bar(p, true));
        }
        due("barring does no process and undoes none", 65535, x.count(4));
    }

    private static void barThatIsNone() {
        OriginRules x = with("1:W;");
        processes(x, 0);
        for (int p : NO_PROCESSES) {
            due("bar(" + p + ", true)", false, x.bar(p, true));
            due("bar(" + p + ", false)", false, x.bar(p, false));
            due("no barred works", 1, x.verdict(100000, 0));
        }
    }

    private static void barTwice() {
        OriginRules x = new OriginRules();
        for (int p = 0; p <= 15; p++) {
            due("bar(" + p + ", false) at first", false, x.bar(p, false));
            due("bar(" + p + ", true)", true, x.bar(p, true));
            due("bar(" + p + ", true) again", false, x.bar(p, true));
        }
        for (int p = 0; p <= 15; p++) {
            due("bar(" + p + ", false)", true, x.bar(p, false));
            due("bar(" + p + ", false) again", false, x.bar(p, false));
        }
    }

    private static void refusedBar() {
        for (int p : NO_PROCESSES) {
            dueRefused(Sentences::busy, "false", x -> x.bar(p, true));
            dueRefused(Sentences::busy, "false", x -> x.bar(p, false));
        }
        dueRefused(Sentences::busy, "false", x -> x.bar(9, true));
        dueRefused(Sentences::busy, "false", x -> x.bar(3, false));
    }

    private static OriginRules withAllPairs() {
        OriginRules x = new OriginRules();
        for (int land = 9; land >= 0; land--) {
            for (int other = 0; other < land; other++) {
                x.join(land, other);
            }
        }
        return x;
    }

    private static void joinAll() {
        OriginRules x = new OriginRules();
        int pairs = 0;
        for (int land = 0; land <= 9; land++) {
            for (int other = land + 1; other <= 9; other++) {
                pairs++;
                due("join(" + land + ", " + other + ")", 1, x.join(land, other));
                due("count(5)", pairs, x.count(5));
            }
        }
    }

    private static void joinAll45() {
        OriginRules x = withAllPairs();
        due("count(5)", 45, x.count(5));
        for (int land = 0; land <= 9; land++) {
            for (int other = 0; other <= 9; other++) {
                if (land != other) {
                    due("join(" + land + ", " + other + ")", 0, x.join(land, other));
                }
            }
        }
        due("count(5) still", 45, x.count(5));
        due("own lands", "1111111111", owns(x));
    }

    private static void joinTwice() {
        OriginRules x = new OriginRules();
        due("join(0, 9)", 1, x.join(0, 9));
        due("join(0, 9) again", 0, x.join(0, 9));
        due("join(9, 0)", 0, x.join(9, 0));
        due("join(9, 1)", 1, x.join(9, 1));
        due("join(1, 9)", 0, x.join(1, 9));
        x.full(true);
        due("lands that are no pair yet", 1, x.join(0, 1));
        due("count(5)", 3, x.count(5));
    }

    private static void joinOfNone() {
        OriginRules x = new OriginRules();
        for (int land : NO_LANDS) {
            dueThrow("join(" + land + ", 0)", ARGUMENT, () -> x.join(land, 0));
            dueThrow("join(9, " + land + ")", ARGUMENT, () -> x.join(9, land));
            dueThrow("join(" + land + ", " + land + ")", ARGUMENT, () -> x.join(land, land));
            dueThrow("join(" + land + ", -1)", ARGUMENT, () -> x.join(land, -1));
        }
        due("count(5)", 0, x.count(5));
    }

    private static void joinOfOne() {
        OriginRules x = new OriginRules();
        OriginRules all = withAllPairs();
        for (int land = 0; land <= 9; land++) {
            int one = land;
            dueThrow("join(" + land + ", " + land + ")", ARGUMENT, () -> x.join(one, one));
            dueThrow("join of one among all pairs, " + land, ARGUMENT, () -> all.join(one, one));
        }
        due("count(5)", 0, x.count(5));
    }

    private static void refusedJoin() {
        for (int land : NO_LANDS) {
            dueRefused(Sentences::busy, "throws " + ARGUMENT, x -> x.join(land, 0));
            dueRefused(Sentences::busy, "throws " + ARGUMENT, x -> x.join(0, land));
        }
        dueRefused(Sentences::busy, "throws " + ARGUMENT, x -> x.join(1, 1));
        dueRefused(Sentences::busy, "0", x -> x.join(0, 3));
        dueRefused(Sentences::busy, "0", x -> x.join(3, 2));
        dueRefused(SentencesOfGoods::withAllPairs, "0", x -> x.join(8, 9));
    }

    private static void fullAndNot() {
        OriginRules x = new OriginRules();
        x.join(0, 1);
        x.join(1, 2);
        due("own lands at first", "1100000000", owns(x));
        due("full(true)", true, x.full(true));
        due("own lands, full", "1110000000", owns(x));
        due("full(false)", true, x.full(false));
        due("own lands, no longer full", "1100000000", owns(x));
        due("full(true) again", true, x.full(true));
        due("own lands, full again", "1110000000", owns(x));
        due("pairs", 2, x.count(5));
    }

    private static void fullTwice() {
        OriginRules x = new OriginRules();
        due("full(false) at first", false, x.full(false));
        due("full(true)", true, x.full(true));
        due("full(true) twice", false, x.full(true));
        due("full(false)", true, x.full(false));
        due("full(false) twice", false, x.full(false));
    }

    /** Whatever the order in which a chain of all lands is joined, and whichever way round. */
    private static void fullChain() {
        int[][] chains = {{0, 1, 2, 3, 4, 5, 6, 7, 8, 9}, {0, 9, 8, 7, 6, 5, 4, 3, 2, 1},
            {0, 9, 1, 8, 2, 7, 3, 6, 4, 5}, {0, 5, 4, 6, 3, 7, 2, 8, 1, 9}};
        for (int[] chain : chains) {
            OriginRules x = new OriginRules();
            x.full(true);
            for (int i = 8; i > 0; i--) {
                x.join(chain[i], chain[i + 1]);
            }
            due("a chain without land 0", "1000000000", owns(x));
            x.join(chain[1], 0);
            due("a chain with land 0", "1111111111", owns(x));
            x.full(false);
            due("directly joined", 2, owns(x).replace("0", "").length());
        }
        OriginRules x = new OriginRules();
        x.full(true);
        x.join(0, 1);
        x.join(1, 2);
        x.join(2, 3);
        x.join(3, 1);
        x.join(7, 8);
        x.join(8, 9);
        due("a ring, and lands apart", "1111000000", owns(x));
    }

    private static void refusedFull() {
        dueRefused(Sentences::busy, "false", x -> x.full(false));
        dueRefused(SentencesOfGoods::busyAndFull, "false", x -> x.full(true));
    }

    private static OriginRules busyAndFull() {
        OriginRules x = busy();
        x.full(true);
        return x;
    }

    private static void toleranceOfAll() {
        OriginRules x = new OriginRules();
        int[][] some = {{0, 1}, {1, 1}, {0, 1000}, {1, 1000}, {999, 1000}, {1000, 1000}, {1, 20}, {500, 999}};
        for (int[] t : some) {
            due("tolerance(" + t[0] + ", " + t[1] + ")", true, x.tolerance(t[0], t[1]));
            due("tolerance(" + t[0] + ", " + t[1] + ") again", true, x.tolerance(t[0], t[1]));
        }
    }

    private static void toleranceDown() {
        OriginRules x = new OriginRules();
        int[] none = {0, -1, 1001, -1000, 65536 + 1, Integer.MIN_VALUE, Integer.MAX_VALUE};
        for (int down : none) {
            due("tolerance(0, " + down + ")", false, x.tolerance(0, down));
            due("tolerance(1, " + down + ")", false, x.tolerance(1, down));
            due("tolerance(" + down + ", " + down + ")", false, x.tolerance(down, down));
        }
        due("tolerance(0, 1)", true, x.tolerance(0, 1));
        due("tolerance(0, 1000)", true, x.tolerance(0, 1000));
    }

    private static void toleranceUp() {
        OriginRules x = new OriginRules();
        int[] downs = {1, 2, 20, 999, 1000};
        for (int down : downs) {
            due("tolerance(-1, " + down + ")", false, x.tolerance(-1, down));
            due("tolerance(0, " + down + ")", true, x.tolerance(0, down));
            due("tolerance(down, " + down + ")", true, x.tolerance(down, down));
            due("tolerance(down + 1, " + down + ")", false, x.tolerance(down + 1, down));
            due("tolerance(least, " + down + ")", false, x.tolerance(Integer.MIN_VALUE, down));
            due("tolerance(greatest, " + down + ")", false, x.tolerance(Integer.MAX_VALUE, down));
        }
    }

    private static void toleranceAtFirst() {
        OriginRules x = with("1:C;2:H;3:S;");
        for (int code = 100000; code <= 300000; code += 100000) {
            x.part(code, 1, 1);
            due("a cent of the dearest good, " + code, 0, x.verdict(code, 1000000000L));
        }
    }

    private static void refusedTolerance() {
        int[][] none = {{0, 0}, {0, 1001}, {-1, 1}, {2, 1}, {1001, 1000}, {-1, -1}, {21, 20}, {1, -20}};
        for (int[] t : none) {
            dueRefused(Sentences::busy, "false", x -> x.tolerance(t[0], t[1]));
        }
    }

    private static void ownOfLandZero() {
        OriginRules x = new OriginRules();
        due("own lands", "1000000000", owns(x));
        x.part(1, 0, 5);
        due("its parts", 0, x.count(3));
        x.full(true);
        due("own lands, full", "1000000000", owns(x));
    }

    private static void ownDirectly() {
        for (int land = 1; land <= 9; land++) {
            OriginRules x = new OriginRules();
            x.join(land, 0);
            for (int other = 1; other <= 9; other++) {
                if (other != land) {
                    x.join(other, land);
                }
            }
            due("only land " + land + " is joined to 0", (1L << 9) + (1L << 9 - land),
                    Long.parseLong(owns(x), 2));
        }
        OriginRules y = new OriginRules();
        y.join(0, 3);
        y.join(7, 0);
        due("both ways round", "1001000100", owns(y));
    }

    private static void ownByFull() {
        OriginRules x = new OriginRules();
        x.join(1, 0);
        x.join(2, 1);
        x.join(3, 4);
        due("own lands", "1100000000", owns(x));
        x.full(true);
        due("own lands, full", "1110000000", owns(x));
        x.join(2, 3);
        due("own lands, one pair more", "1111100000", owns(x));
        x.clear();
        due("own lands after clear()", "1111100000", owns(x));
    }

    private static void ownOfNone() {
        OriginRules x = withAllPairs();
        for (int land : NO_LANDS) {
            dueThrow("own(" + land + ")", ARGUMENT, () -> x.own(land));
        }
    }

    private static void refusedOwn() {
        for (int land : NO_LANDS) {
            dueRefused(Sentences::busy, "throws " + ARGUMENT, x -> x.own(land));
        }
    }
}
