/** Promises 11 to 13: the verdict, why, and the foreign share. */
public final class SentencesOfVerdict extends Sentences {
    public static void main(String[] args) {
        verdictArguments();
        verdictRow();
        verdictBarred();
        verdictRule();
        verdictChange();
        verdictShare();
        verdictTolerance();
        why();
        share();
        end();
    }

    private static void verdictArguments() {
        test(11, "IllegalArgumentException if there is no such code or price", "the code",
                SentencesOfVerdict::verdictOfNoCode);
        test(11, "IllegalArgumentException if there is no such code or price", "the price",
                SentencesOfVerdict::verdictOfNoPrice);
        test(11, "what else throws or is refused changes nothing", SentencesOfVerdict::refusedVerdict);
    }

    private static void verdictRow() {
        test(11, "3 there is no rule for its code", SentencesOfVerdict::noRule);
        test(11, "a code has the row with the most digits that begins its six",
                SentencesOfVerdict::rowWithTheMostDigits);
        test(11, "of equal ones the last", SentencesOfVerdict::lastOfEqualRows);
        test(11, "12345 is 012345", SentencesOfVerdict::codesOfFewerDigits);
    }

    private static void verdictBarred() {
        test(11, "if all processes that were done are barred ones", SentencesOfVerdict::allDoneAreBarred);
        test(11, "(and there is one)", SentencesOfVerdict::noneDone);
        test(11, "the good is not originating, whatever its rule says",
                SentencesOfVerdict::barredWhateverTheRule);
        test(11, "3 there is no rule for its code; 2 barred works", SentencesOfVerdict::noRuleAheadOfBarred);
    }

    private static void verdictRule() {
        test(11, "1 its rule holds; 0 it does not", SentencesOfVerdict::ruleHoldsOrNot);
        test(11, "TERMS with | between any two: one of them is to hold", SentencesOfVerdict::oneOfTerms);
        test(11, "FACTORS with & between: all are to hold", SentencesOfVerdict::allFactors);
        test(11, "( RULE ) as it is", SentencesOfVerdict::bracketsAsTheyAre);
        test(11, "W wholly obtained: there are no parts", SentencesOfVerdict::whollyObtained);
        test(11, "that process was done", SentencesOfVerdict::processDone);
    }

    private static void verdictChange() {
        test(11, "no FOREIGN part has the same as the good", "C, the chapter", SentencesOfVerdict::chapter);
        test(11, "no FOREIGN part has the same as the good", "H, the heading", SentencesOfVerdict::heading);
        test(11, "no FOREIGN part has the same as the good", "S, the code", SentencesOfVerdict::wholeCode);
        test(11, "no FOREIGN part has the same as the good", "own parts may",
                SentencesOfVerdict::ownPartsAreNotAsked);
        test(11, "the CHAPTER are the first two of six, the HEADING the first four",
                SentencesOfVerdict::sixDigits);
    }

    private static void verdictShare() {
        test(11, "the FOREIGN share of the price is not above that many hundredths", "each number",
                SentencesOfVerdict::hundredths);
        test(11, "the FOREIGN share of the price is not above that many hundredths", "V0",
                SentencesOfVerdict::noHundredths);
        test(11, "the FOREIGN share of the price is not above that many hundredths", "V100",
                SentencesOfVerdict::allHundredths);
        test(11, "the FOREIGN share of the price is not above that many hundredths", "of FOREIGN parts alone",
                SentencesOfVerdict::hundredthsOfForeign);
        test(11, "V in a rule with a price of 0 does not hold", SentencesOfVerdict::hundredthsOfNothing);
        test(11, "the FOREIGN share of the price is not above that many hundredths", "the greatest cents",
                SentencesOfVerdict::hundredthsOfTheMost);
    }

    private static void verdictTolerance() {
        test(10, "their cents together are not above that share of the price (exactly)", "exactly",
                SentencesOfVerdict::toleranceExactly);
        test(10, "their cents together are not above that share of the price (exactly)", "together",
                SentencesOfVerdict::toleranceTogether);
        test(10, "for C, H and S", "each of them", SentencesOfVerdict::toleranceOfEachChange);
        test(10, "for C, H and S", "and for no others", SentencesOfVerdict::toleranceOfNoOther);
        test(10, "FOREIGN parts with the same code", SentencesOfVerdict::toleranceOfTheSameAlone);
        test(10, "their cents together are not above that share of the price (exactly)", "a price of 0",
                SentencesOfVerdict::toleranceOfNothing);
        test(10, "their cents together are not above that share of the price (exactly)", "the greatest price",
                SentencesOfVerdict::toleranceOfTheMost);
    }

    private static void why() {
        test(12, "the i-th factor of a letter that was asked", SentencesOfVerdict::whyByNumber);
        test(12, "brackets are none of their own, what is in them is asked",
                SentencesOfVerdict::whyInBrackets);
        test(12, "those behind a | are asked only if those ahead of it do not hold",
                SentencesOfVerdict::whyBehindOr);
        test(12, "those behind a & only if those ahead hold", SentencesOfVerdict::whyBehindAnd);
        test(12, "in the order of the text", "| and & and brackets together",
                SentencesOfVerdict::whyOfAllTogether);
        test(12, "twice its place in its row's text (the row's first sign is 0)",
                SentencesOfVerdict::whyPlaces);
        test(12, "and 1 if it held", SentencesOfVerdict::whyOfEachLetter);
        test(12, "NONE without", SentencesOfVerdict::whyOfNone);
        test(12, "Of the latest verdict of 0 or 1", SentencesOfVerdict::whyOfTheLatest);
        test(12, "the i-th factor of a letter that was asked", "the longest row",
                SentencesOfVerdict::whyOfTheLongestRow);
        test(12, "what else throws or is refused changes nothing", SentencesOfVerdict::refusedWhy);
    }

    private static void share() {
        test(13, "side 0 the upper, 1 the lower number", SentencesOfVerdict::shareSides);
        test(13, "as a reduced fraction", SentencesOfVerdict::shareReduced);
        test(13, "(0 is 0 / 1)", SentencesOfVerdict::shareOfNone);
        test(13, "the cents of FOREIGN parts", SentencesOfVerdict::shareOfForeign);
        test(13, "as a reduced fraction", "the greatest cents and prices",
                SentencesOfVerdict::shareOfTheMost);
        test(13, "IllegalArgumentException if there is no such price or side", "the price",
                SentencesOfVerdict::shareOfNoPrice);
        test(13, "IllegalArgumentException if there is no such price or side", "the side",
                SentencesOfVerdict::shareOfNoSide);
        test(13, "ArithmeticException if the price is 0", SentencesOfVerdict::shareOfPriceZero);
        test(13, "Of several exceptions the one told first is thrown",
                SentencesOfVerdict::shareOfSeveralWrongs);
        test(13, "what else throws or is refused changes nothing", SentencesOfVerdict::refusedShare);
    }

    private static void dueVerdict(OriginRules x, int code, long price, int want) {
        due("verdict(" + code + ", " + price + ")", want, x.verdict(code, price));
    }

    /** With process 1 done alone: P1 holds and P0 does not. */
    private static void dueWhy(String rule, int verdict, String why) {
        OriginRules x = with("1:" + rule + ";");
        processes(x, 1);
        due("verdict of " + rule, verdict, x.verdict(100000, 1));
        due("why of " + rule, why, why(x));
        due("asked of " + rule, why.split(" ").length, x.count(7));
    }

    private static void verdictOfNoCode() {
        OriginRules x = with("1:W;0:W;9:W;");
        for (int code : NO_CODES) {
            dueThrow("verdict(" + code + ", 5)", ARGUMENT, () -> x.verdict(code, 5));
            dueThrow("verdict(" + code + ", -1)", ARGUMENT, () -> x.verdict(code, -1));
            dueThrow("verdict(" + code + ", 0) without rules", ARGUMENT,
                    () -> new OriginRules().verdict(code, 0));
        }
        dueVerdict(x, 1, 5, 1);
        dueVerdict(x, 999999, 5, 1);
    }

    private static void verdictOfNoPrice() {
        OriginRules x = with("1:W;");
        for (long price : NO_CENTS) {
            dueThrow("verdict(100000, " + price + ")", ARGUMENT, () -> x.verdict(100000, price));
            dueThrow("verdict(1, " + price + ") without a rule", ARGUMENT, () -> x.verdict(1, price));
        }
        dueVerdict(x, 100000, 0, 1);
        dueVerdict(x, 100000, 1000000000L, 1);
        processes(x, 5);
        x.bar(5, true);
        dueThrow("verdict(100000, -1) of barred works", ARGUMENT, () -> x.verdict(100000, -1));
    }

    private static void refusedVerdict() {
        for (int code : NO_CODES) {
            dueRefused(Sentences::busy, "throws " + ARGUMENT, x -> x.verdict(code, 100));
        }
        for (long price : NO_CENTS) {
            dueRefused(Sentences::busy, "throws " + ARGUMENT, x -> x.verdict(120000, price));
        }
    }

    private static void noRule() {
        OriginRules x = with("12:W;34567:W;890123:W;");
        int[] none = {110000, 119999, 130000, 345680, 345669, 890122, 890124, 1, 999999, 12, 34567};
        for (int code : none) {
            dueVerdict(x, code, 1, 3);
        }
        int[] some = {120000, 129999, 345670, 345679, 890123};
        for (int code : some) {
            dueVerdict(x, code, 1, 1);
        }
        due("factors asked", 1, x.count(7));
    }

    /** Each row has its first letter at a place of its own, so that why tells the row. */
    private static void rowWithTheMostDigits() {
        OriginRules x = with("1:W;12:C|W;123:(W);1234:((W));12345:(((W)));123456:((((W))));");
        int[][] due = {{100000, 5}, {119999, 5}, {130000, 5}, {120000, 7}, {122999, 7}, {123000, 11},
            {123399, 11}, {123400, 15}, {123449, 15}, {123450, 19}, {123455, 19}, {123456, 23}, {123457, 19}};
        for (int[] d : due) {
            dueVerdict(x, d[0], 1, 1);
            due("why of " + d[0], d[1], x.why(0));
        }
        OriginRules turned = with("123456:((((W))));12345:(((W)));1234:((W));123:(W);12:C|W;1:W;");
        for (int[] d : due) {
            dueVerdict(turned, d[0], 1, 1);
            due("why of " + d[0] + " with the rows turned", d[1], turned.why(0));
        }
    }

    private static void lastOfEqualRows() {
        OriginRules x = with("12:P1;12:P2;1:W;12:P3;13:P4;1:P5;");
        processes(x, 3);
        dueVerdict(x, 120000, 1, 1);
        dueVerdict(x, 130000, 1, 0);
        dueVerdict(x, 140000, 1, 0);
        x.clear();
        processes(x, 1, 2, 4);
        dueVerdict(x, 120000, 1, 0);
        dueVerdict(x, 130000, 1, 1);
        x.clear();
        processes(x, 5);
        dueVerdict(x, 140000, 1, 1);
        dueVerdict(x, 120000, 1, 0);
        OriginRules six = with("123456:P1;123456:P2;");
        processes(six, 2);
        dueVerdict(six, 123456, 1, 1);
    }

    private static void codesOfFewerDigits() {
        OriginRules x = with("1:W;12:W;12345:W;");
        int[] none = {1, 12, 123, 1234, 12345, 99999};
        for (int code : none) {
            dueVerdict(x, code, 1, 3);
        }
        dueVerdict(x, 123450, 1, 1);
        OriginRules zeros = with("0:W;01:(W);000:((W));000001:(((W)));");
        int[][] due = {{99999, 5}, {20000, 5}, {9999, 5}, {1000, 5}, {12345, 9}, {10000, 9}, {999, 13},
            {2, 13}, {1, 21}};
        for (int[] d : due) {
            dueVerdict(zeros, d[0], 1, 1);
            due("why of " + d[0], d[1], zeros.why(0));
        }
        dueVerdict(zeros, 100000, 1, 3);
    }

    private static void allDoneAreBarred() {
        OriginRules x = with("1:W;");
        x.bar(0, true);
        x.bar(7, true);
        x.bar(15, true);
        processes(x, 7);
        dueVerdict(x, 100000, 1, 2);
        processes(x, 0, 15);
        dueVerdict(x, 100000, 1, 2);
        processes(x, 8);
        dueVerdict(x, 100000, 1, 1);
        x.bar(8, true);
        dueVerdict(x, 100000, 1, 2);
        x.bar(0, false);
        dueVerdict(x, 100000, 1, 1);
        for (int p = 0; p <= 15; p++) {
            OriginRules one = with("1:W;");
            one.bar(p, true);
            processes(one, p);
            dueVerdict(one, 100000, 1, 2);
        }
    }

    private static void noneDone() {
        OriginRules x = with("1:W;2:P1;");
        dueVerdict(x, 100000, 1, 1);
        for (int p = 0; p <= 15; p++) {
            x.bar(p, true);
        }
        dueVerdict(x, 100000, 1, 1);
        dueVerdict(x, 200000, 1, 0);
        processes(x, 1);
        dueVerdict(x, 200000, 1, 2);
        x.clear();
        dueVerdict(x, 200000, 1, 0);
    }

    private static void barredWhateverTheRule() {
        OriginRules x = with("1:P3;2:P4;3:V50;");
        processes(x, 3);
        dueVerdict(x, 100000, 1, 1);
        dueVerdict(x, 200000, 1, 0);
        x.bar(3, true);
        dueVerdict(x, 100000, 1, 2);
        dueVerdict(x, 200000, 1, 2);
        dueVerdict(x, 300000, 0, 2);
    }

    private static void noRuleAheadOfBarred() {
        OriginRules x = with("1:W;");
        processes(x, 3);
        x.bar(3, true);
        dueVerdict(x, 200000, 1, 3);
        dueVerdict(x, 100000, 1, 2);
    }

    private static void ruleHoldsOrNot() {
        OriginRules x = with("1:P1;2:P2;");
        processes(x, 2);
        dueVerdict(x, 100000, 1, 0);
        dueVerdict(x, 200000, 1, 1);
    }

    private static void oneOfTerms() {
        for (int done = 0; done < 8; done++) {
            OriginRules x = with("1:P0|P1|P2;");
            someDone(x, done);
            dueVerdict(x, 100000, 1, done != 0 ? 1 : 0);
        }
    }

    private static void allFactors() {
        for (int done = 0; done < 16; done++) {
            OriginRules x = with("1:P0&P1&P2;2:P0&P1|P2&P3;3:P0|P1&P2|P3;");
            someDone(x, done);
            boolean[] is = {done % 2 == 1, done / 2 % 2 == 1, done / 4 % 2 == 1, done / 8 == 1};
            dueVerdict(x, 100000, 1, is[0] && is[1] && is[2] ? 1 : 0);
            dueVerdict(x, 200000, 1, is[0] && is[1] || is[2] && is[3] ? 1 : 0);
            dueVerdict(x, 300000, 1, is[0] || is[1] && is[2] || is[3] ? 1 : 0);
        }
    }

    private static void bracketsAsTheyAre() {
        for (int done = 0; done < 16; done++) {
            OriginRules x = with("1:(P0|P1)&(P2|P3);2:P0&(P1|P2&(P3|P0))|P3;3:((((((((P0|P1))))))))&P2;");
            someDone(x, done);
            boolean[] is = {done % 2 == 1, done / 2 % 2 == 1, done / 4 % 2 == 1, done / 8 == 1};
            dueVerdict(x, 100000, 1, (is[0] || is[1]) && (is[2] || is[3]) ? 1 : 0);
            dueVerdict(x, 200000, 1, is[0] && (is[1] || is[2]) || is[3] ? 1 : 0);
            dueVerdict(x, 300000, 1, (is[0] || is[1]) && is[2] ? 1 : 0);
        }
    }

    private static void someDone(OriginRules x, int bits) {
        for (int p = 0; p < 16; p++) {
            if ((bits >> p & 1) == 1) {
                x.process(p);
            }
        }
    }

    private static void whollyObtained() {
        OriginRules x = with("1:W;");
        dueVerdict(x, 100000, 0, 1);
        dueVerdict(x, 100000, 1000000000L, 1);
        x.part(900000, 0, 0);
        dueVerdict(x, 100000, 5, 0);
        x.clear();
        dueVerdict(x, 100000, 5, 1);
        x.part(900000, 1, 5);
        dueVerdict(x, 100000, 5, 0);
    }

    private static void processDone() {
        for (int p = 0; p <= 15; p++) {
            OriginRules x = with("1:P" + p + ";2:P" + (p < 10 ? "0" : "") + p + ";");
            someDone(x, 65535 - (1 << p));
            dueVerdict(x, 100000, 0, 0);
            dueVerdict(x, 200000, 0, 0);
            x.clear();
            processes(x, p);
            dueVerdict(x, 100000, 0, 1);
            dueVerdict(x, 200000, 0, 1);
        }
    }

    private static void chapter() {
        OriginRules x = with("1:C;");
        x.part(119999, 1, 5);
        x.part(130000, 1, 5);
        dueVerdict(x, 120000, 100, 1);
        dueVerdict(x, 129999, 100, 1);
        dueVerdict(x, 110000, 100, 0);
        dueVerdict(x, 139999, 100, 0);
    }

    private static void heading() {
        OriginRules x = with("1:H;");
        x.part(123399, 1, 5);
        x.part(123500, 1, 5);
        dueVerdict(x, 123400, 100, 1);
        dueVerdict(x, 123499, 100, 1);
        dueVerdict(x, 123300, 100, 0);
        dueVerdict(x, 123599, 100, 0);
    }

    private static void wholeCode() {
        OriginRules x = with("1:S;");
        x.part(123455, 1, 5);
        x.part(123457, 1, 5);
        dueVerdict(x, 123456, 100, 1);
        dueVerdict(x, 123455, 100, 0);
        dueVerdict(x, 123457, 100, 0);
    }

    private static void ownPartsAreNotAsked() {
        OriginRules x = with("1:C&H&S;");
        x.part(123456, 0, 50);
        dueVerdict(x, 123456, 100, 1);
        x.part(123456, 4, 50);
        dueVerdict(x, 123456, 100, 0);
        x.join(3, 0);
        x.join(3, 4);
        dueVerdict(x, 123456, 100, 0);
        x.full(true);
        dueVerdict(x, 123456, 100, 1);
        x.part(123456, 5, 50);
        dueVerdict(x, 123456, 100, 0);
        x.join(0, 5);
        dueVerdict(x, 123456, 100, 1);
    }

    private static void sixDigits() {
        OriginRules x = with("0:C;1:C;");
        x.part(12345, 1, 5);
        dueVerdict(x, 10000, 100, 0);
        dueVerdict(x, 19999, 100, 0);
        dueVerdict(x, 9999, 100, 1);
        dueVerdict(x, 20000, 100, 1);
        dueVerdict(x, 123456, 100, 1);
        OriginRules h = with("0:H;1:H;");
        h.part(12345, 1, 5);
        dueVerdict(h, 12300, 100, 0);
        dueVerdict(h, 12399, 100, 0);
        dueVerdict(h, 12400, 100, 1);
        dueVerdict(h, 123499, 100, 1);
        h.part(1, 1, 5);
        dueVerdict(h, 99, 100, 0);
        dueVerdict(h, 100, 100, 1);
    }

    private static void hundredths() {
        for (int n = 0; n <= 100; n++) {
            OriginRules x = with("1:V" + n + ";");
            x.part(5, 1, n);
            dueVerdict(x, 100000, 100, 1);
            dueVerdict(x, 100000, 101, 1);
            dueVerdict(x, 100000, 99, n == 0 ? 1 : 0);
            x.part(5, 1, 1);
            dueVerdict(x, 100000, 100, 0);
        }
        OriginRules third = with("1:V33;2:V34;");
        third.part(5, 1, 1);
        dueVerdict(third, 100000, 3, 0);
        dueVerdict(third, 200000, 3, 1);
        dueVerdict(third, 100000, 4, 1);
    }

    private static void noHundredths() {
        OriginRules x = with("1:V0;2:V000;");
        dueVerdict(x, 100000, 1, 1);
        x.part(5, 1, 0);
        dueVerdict(x, 100000, 1, 1);
        dueVerdict(x, 200000, 1, 1);
        x.part(5, 1, 1);
        dueVerdict(x, 100000, 1000000000L, 0);
        dueVerdict(x, 200000, 1000000000L, 0);
    }

    private static void allHundredths() {
        OriginRules x = with("1:V100;");
        x.part(5, 1, 77);
        dueVerdict(x, 100000, 77, 1);
        dueVerdict(x, 100000, 76, 0);
        dueVerdict(x, 100000, 78, 1);
    }

    private static void hundredthsOfForeign() {
        OriginRules x = with("1:V40;");
        x.part(5, 0, 1000000);
        x.part(5, 1, 30);
        x.part(6, 2, 10);
        dueVerdict(x, 100000, 100, 1);
        dueVerdict(x, 100000, 99, 0);
        x.join(1, 0);
        dueVerdict(x, 100000, 25, 1);
        dueVerdict(x, 100000, 24, 0);
    }

    private static void hundredthsOfNothing() {
        OriginRules x = with("1:V0;2:V100;3:V50|W;4:W&V100;");
        dueVerdict(x, 100000, 0, 0);
        dueVerdict(x, 200000, 0, 0);
        due("why", "4", why(x));
        dueVerdict(x, 300000, 0, 1);
        due("why", "4 13", why(x));
        dueVerdict(x, 400000, 0, 0);
        dueVerdict(x, 200000, 1, 1);
        x.part(5, 1, 5);
        dueVerdict(x, 200000, 0, 0);
    }

    private static void hundredthsOfTheMost() {
        OriginRules x = with("1:V100;2:V99;3:V1;");
        x.part(5, 1, 990000000L);
        dueVerdict(x, 200000, 1000000000L, 1);
        x.part(5, 1, 1);
        dueVerdict(x, 200000, 1000000000L, 0);
        x.part(5, 1, 9999999L);
        dueVerdict(x, 100000, 1000000000L, 1);
        x.part(5, 1, 1);
        dueVerdict(x, 100000, 1000000000L, 0);
        for (int i = 0; i < 8; i++) {
            x.part(5, 9, 1000000000L);
        }
        dueVerdict(x, 100000, 1000000000L, 0);
        dueVerdict(x, 300000, 1, 0);
    }

    private static void toleranceExactly() {
        OriginRules x = with("1:H;");
        x.part(100001, 1, 50);
        int[][] due = {{1, 20, 1000}, {1, 10, 500}, {1, 1, 50}, {1000, 1000, 50}, {1, 1000, 50000}, {2, 3, 75},
            {999, 1000, 51}, {7, 9, 65}, {1, 3, 150}};
        for (int[] d : due) {
            x.tolerance(d[0], d[1]);
            dueVerdict(x, 100000, d[2], 1);
            dueVerdict(x, 100000, d[2] - 1, 0);
        }
        x.tolerance(0, 1000);
        dueVerdict(x, 100000, 1000000000L, 0);
    }

    private static void toleranceTogether() {
        OriginRules x = with("1:H;");
        x.tolerance(1, 10);
        x.part(100001, 1, 4);
        x.part(100002, 2, 4);
        dueVerdict(x, 100000, 80, 1);
        dueVerdict(x, 100000, 79, 0);
        x.part(100000, 1, 2);
        dueVerdict(x, 100000, 99, 0);
        dueVerdict(x, 100000, 100, 1);
    }

    private static void toleranceOfEachChange() {
        OriginRules x = with("1:C;2:H;3:S;");
        x.tolerance(1, 10);
        x.part(109999, 1, 5);
        x.part(200099, 1, 5);
        x.part(300000, 1, 5);
        for (int code = 100000; code <= 300000; code += 100000) {
            dueVerdict(x, code, 50, 1);
            dueVerdict(x, code, 49, 0);
        }
    }

    private static void toleranceOfNoOther() {
        OriginRules x = with("1:V4;2:W;3:P1;");
        x.tolerance(1, 1);
        x.part(100000, 1, 5);
        x.part(200000, 1, 5);
        dueVerdict(x, 100000, 249, 0);
        dueVerdict(x, 100000, 250, 1);
        dueVerdict(x, 200000, 1000, 0);
        dueVerdict(x, 300000, 1000, 0);
        due("parts", 2, x.count(2));
        due("foreign parts", 2, x.count(3));
        due("share", "1 / 10", share(x, 100));
    }

    private static void toleranceOfTheSameAlone() {
        OriginRules x = with("1:C;2:H;3:S;");
        x.tolerance(1, 10);
        x.part(119999, 1, 5);
        x.part(210101, 1, 5);
        x.part(310000, 1, 5);
        x.part(120000, 1, 500);
        x.part(210000, 1, 500);
        x.part(210200, 1, 500);
        x.part(310001, 1, 500);
        x.part(119999, 0, 500);
        x.part(210101, 0, 500);
        x.part(310000, 0, 500);
        int[] codes = {110000, 210100, 310000};
        for (int code : codes) {
            dueVerdict(x, code, 50, 1);
            dueVerdict(x, code, 49, 0);
        }
        x.join(0, 1);
        dueVerdict(x, 310000, 1, 1);
    }

    private static void toleranceOfNothing() {
        OriginRules x = with("1:S;");
        dueVerdict(x, 100000, 0, 1);
        x.part(100000, 1, 0);
        dueVerdict(x, 100000, 0, 1);
        dueVerdict(x, 100000, 50, 1);
        x.tolerance(1, 1);
        dueVerdict(x, 100000, 0, 1);
        x.part(100000, 1, 1);
        dueVerdict(x, 100000, 0, 0);
        dueVerdict(x, 100000, 1, 1);
    }

    private static void toleranceOfTheMost() {
        OriginRules x = with("1:S;");
        x.part(100000, 1, 999000000L);
        x.tolerance(999, 1000);
        dueVerdict(x, 100000, 1000000000L, 1);
        dueVerdict(x, 100000, 999999999L, 0);
        x.part(100000, 1, 1000000L);
        dueVerdict(x, 100000, 1000000000L, 0);
        x.tolerance(1000, 1000);
        dueVerdict(x, 100000, 1000000000L, 1);
        for (int i = 0; i < 10; i++) {
            x.part(100000, 9, 1000000000L);
            dueVerdict(x, 100000, 1000000000L, 0);
        }
    }

    private static void whyByNumber() {
        OriginRules x = with("1:P0|P1&P2|P3;");
        processes(x, 1);
        dueVerdict(x, 100000, 1, 0);
        int[] due = {4, 11, 16, 22};
        for (int i = 0; i < due.length; i++) {
            due("why(" + i + ")", due[i], x.why(i));
        }
        due("why(3) again", 22, x.why(3));
        due("why(0) again", 4, x.why(0));
    }

    private static void whyInBrackets() {
        dueWhy("(P1)", 1, "7");
        dueWhy("((((((((P0))))))))", 0, "20");
        dueWhy("(P0|P1)&P1", 1, "6 13 21");
        dueWhy("((P0))|((P1))", 1, "8 23");
        dueWhy("(P1&(P1&P0))", 0, "7 15 20");
    }

    private static void whyBehindOr() {
        dueWhy("P1|P0", 1, "5");
        dueWhy("P0|P1", 1, "4 11");
        dueWhy("P0|P0|P1|P1", 1, "4 10 17");
        dueWhy("P0|P0|P0", 0, "4 10 16");
        dueWhy("P1|P0|P1", 1, "5");
        dueWhy("P1|P0&P0", 1, "5");
        dueWhy("(P1|P1)|P1", 1, "7");
        dueWhy("P1|(P0|P1)&P1", 1, "5");
    }

    private static void whyBehindAnd() {
        dueWhy("P0&P1", 0, "4");
        dueWhy("P1&P0", 0, "5 10");
        dueWhy("P1&P1&P0&P1", 0, "5 11 16");
        dueWhy("P1&P1&P1", 1, "5 11 17");
        dueWhy("P0&P1&P1", 0, "4");
        dueWhy("P0&(P1|P1)", 0, "4");
        dueWhy("(P0&P1)&P1", 0, "6");
    }

    private static void whyOfAllTogether() {
        dueWhy("P0&P1|P1", 1, "4 17");
        dueWhy("P0&P1&P1|P0&P1|P1&P0", 0, "4 22 35 40");
        dueWhy("P1&P0|P1", 1, "5 10 17");
        dueWhy("(P1|P0)&P0", 0, "7 20");
        dueWhy("(P0&P1)|P1", 1, "6 21");
        dueWhy("P0&(P1|P1)|P1", 1, "4 27");
        dueWhy("P0&(P1|P1)&P1|P1", 1, "4 33");
        dueWhy("P1&(P0|(P0|P1)&P1)&P0", 0, "5 12 20 27 35 42");
        dueWhy("P1&(P1|(P0|P1)&P1)&P0", 0, "5 13 42");
        dueWhy("(P1&P0)&P1|P1", 1, "7 12 27");
        dueWhy("((P0|P0)&P1)|P0", 0, "8 14 30");
        dueWhy("P0&((P1)|(P1))|P0", 0, "4 34");
        dueWhy("P1|((P1|P0)|P1)|P1", 1, "5");
        dueWhy("(P0&(P1|P1)|P1)&P0", 0, "6 29 36");
    }

    private static void whyPlaces() {
        OriginRules x = with("1:P0;12:P0;123:P0;1234:P0;12345:P0;123456:P0;");
        int[] codes = {100000, 120000, 123000, 123400, 123450, 123456};
        for (int digits = 1; digits <= 6; digits++) {
            dueVerdict(x, codes[digits - 1], 1, 0);
            due("why of " + digits + " digits", 2 * (digits + 1), x.why(0));
        }
        OriginRules y = with("1:W;23:V100&P15&(H|W);");
        dueVerdict(y, 234567, 1, 0);
        due("why with numbers of more digits", "7 16", why(y));
        processes(y, 15);
        y.part(234500, 1, 1);
        dueVerdict(y, 234567, 1, 0);
        due("why with all asked", "7 17 26 30", why(y));
    }

    private static void whyOfEachLetter() {
        OriginRules x = with("1:W|C|H|S|V0|P1;");
        x.part(100000, 1, 5);
        dueVerdict(x, 100000, 5, 0);
        due("none of the letters", "4 8 12 16 20 26", why(x));
        OriginRules y = with("1:W&C&H&S&V0&P1;");
        processes(y, 1);
        dueVerdict(y, 100000, 5, 1);
        due("all of the letters", "5 9 13 17 21 27", why(y));
    }

    private static void whyOfNone() {
        OriginRules x = with("1:P0|P0;");
        due("why(0) ahead of a verdict", OriginRules.NONE, x.why(0));
        due("verdict without a rule", 3, x.verdict(200000, 1));
        due("why(0) of a verdict of 3", OriginRules.NONE, x.why(0));
        dueVerdict(x, 100000, 1, 0);
        int[] none = {-1, 2, 3, 149, 150, 300, 1 << 16, Integer.MIN_VALUE, Integer.MIN_VALUE + 1, Integer.MAX_VALUE};
        for (int i : none) {
            due("why(" + i + ")", OriginRules.NONE, x.why(i));
        }
        due("why(0)", 4, x.why(0));
        due("why(1)", 10, x.why(1));
    }

    private static void whyOfTheLatest() {
        OriginRules x = with("1:P0|P0|P0;23:P9|C;3:W;");
        dueVerdict(x, 100000, 1, 0);
        due("three", "4 10 16", why(x));
        dueVerdict(x, 234567, 1, 1);
        due("then two", "6 13", why(x));
        dueVerdict(x, 900000, 1, 3);
        due("after a verdict of 3", "6 13", why(x));
        due("asked after a verdict of 3", 2, x.count(7));
        processes(x, 8);
        x.bar(8, true);
        dueVerdict(x, 100000, 1, 2);
        due("after a verdict of 2", "6 13", why(x));
        due("asked after a verdict of 2", 2, x.count(7));
        dueThrow("a verdict that throws", ARGUMENT, () -> x.verdict(0, 1));
        due("after a verdict that throws", "6 13", why(x));
        read(x, "3:W&W;");
        x.clear();
        due("after read() and clear()", "6 13", why(x));
        dueVerdict(x, 300000, 1, 1);
        due("the latest", "5 9", why(x));
    }

    private static void whyOfTheLongestRow() {
        OriginRules x = with("1:" + times(148, "W|") + "S;");
        x.part(1, 0, 0);
        dueVerdict(x, 100000, 0, 1);
        due("asked", 149, x.count(7));
        for (int i = 0; i < 148; i++) {
            due("why(" + i + ")", 2 * (2 + 2 * i), x.why(i));
        }
        due("why(148)", 2 * 298 + 1, x.why(148));
        due("why(149)", -1, x.why(149));
    }

    private static void refusedWhy() {
        dueRefused(Sentences::busy, "-1", x -> x.why(2));
        dueRefused(Sentences::busy, "-1", x -> x.why(-1));
    }

    private static void shareSides() {
        OriginRules x = new OriginRules();
        x.part(1, 1, 3);
        due("upper", 3L, x.share(5, 0));
        due("lower", 5L, x.share(5, 1));
        due("upper again", 3L, x.share(5, 0));
    }

    private static void shareReduced() {
        OriginRules x = new OriginRules();
        x.part(1, 1, 40);
        x.part(2, 2, 20);
        String[][] due = {{"100", "3 / 5"}, {"60", "1 / 1"}, {"120", "1 / 2"}, {"7", "60 / 7"}, {"1", "60 / 1"},
            {"40", "3 / 2"}, {"20", "3 / 1"}, {"1000000000", "3 / 50000000"}, {"61", "60 / 61"}, {"59", "60 / 59"}};
        for (String[] d : due) {
            due("share of " + d[0], d[1], share(x, Long.parseLong(d[0])));
        }
        for (int cents = 1; cents <= 30; cents++) {
            x.clear();
            x.part(1, 1, cents);
            for (int price = 1; price <= 4; price++) {
                int divisor = cents % price == 0 ? price : cents % 2 == 0 && price == 4 ? 2 : 1;
                due("share of " + price + ", " + cents, cents / divisor + " / " + price / divisor, share(x, price));
            }
        }
    }

    private static void shareOfNone() {
        OriginRules x = new OriginRules();
        long[] prices = {1, 2, 97, 1000000000L};
        for (long price : prices) {
            due("share without parts", "0 / 1", share(x, price));
        }
        x.part(1, 0, 5);
        x.part(1, 1, 0);
        for (long price : prices) {
            due("share without foreign cents", "0 / 1", share(x, price));
        }
    }

    private static void shareOfForeign() {
        OriginRules x = new OriginRules();
        x.part(1, 0, 1000);
        x.part(2, 1, 40);
        x.part(3, 2, 20);
        due("share", "3 / 5", share(x, 100));
        x.join(2, 0);
        due("share without land 2", "2 / 5", share(x, 100));
        x.join(1, 2);
        due("share of what is joined to 2", "2 / 5", share(x, 100));
        x.full(true);
        due("share, full", "0 / 1", share(x, 100));
    }

    private static void shareOfTheMost() {
        OriginRules x = new OriginRules();
        x.part(1, 1, 1);
        due("the greatest price", "1 / 1000000000", share(x, 1000000000L));
        x.clear();
        for (int i = 0; i < 12; i++) {
            x.part(1, 9, 1000000000L);
        }
        due("the most cents", "12000000000 / 1", share(x, 1));
        due("the most of both", "12 / 1", share(x, 1000000000L));
        due("the most cents, odd", "4000000000 / 333333333", share(x, 999999999L));
        x.clear();
        // Neighbours in Fibonacci's row take Euclid the most steps
        x.part(1, 9, 433494437L);
        due("the most steps", "433494437 / 701408733", share(x, 701408733L));
        x.clear();
        x.part(1, 9, 701408733L);
        due("the most steps, turned", "701408733 / 433494437", share(x, 433494437L));
    }

    private static void shareOfNoPrice() {
        OriginRules x = new OriginRules();
        x.part(1, 1, 5);
        for (long price : NO_CENTS) {
            dueThrow("share(" + price + ", 0)", ARGUMENT, () -> x.share(price, 0));
            dueThrow("share(" + price + ", 1)", ARGUMENT, () -> x.share(price, 1));
        }
        due("the least", "5 / 1", share(x, 1));
        due("the greatest", "1 / 200000000", share(x, 1000000000L));
    }

    private static void shareOfNoSide() {
        OriginRules x = new OriginRules();
        int[] none = {-1, 2, 3, Integer.MIN_VALUE, Integer.MAX_VALUE};
        for (int side : none) {
            dueThrow("share(5, " + side + ")", ARGUMENT, () -> x.share(5, side));
        }
    }

    private static void shareOfPriceZero() {
        OriginRules x = new OriginRules();
        dueThrow("share(0, 0) without parts", ARITHMETIC, () -> x.share(0, 0));
        dueThrow("share(0, 1) without parts", ARITHMETIC, () -> x.share(0, 1));
        x.part(1, 1, 5);
        dueThrow("share(0, 0)", ARITHMETIC, () -> x.share(0, 0));
        dueThrow("share(0, 1)", ARITHMETIC, () -> x.share(0, 1));
    }

    private static void shareOfSeveralWrongs() {
        OriginRules x = new OriginRules();
        dueThrow("share(0, 2)", ARGUMENT, () -> x.share(0, 2));
        dueThrow("share(0, -1)", ARGUMENT, () -> x.share(0, -1));
    }

    private static void refusedShare() {
        for (long price : NO_CENTS) {
            dueRefused(Sentences::busy, "throws " + ARGUMENT, x -> x.share(price, 0));
        }
        dueRefused(Sentences::busy, "throws " + ARGUMENT, x -> x.share(5, 2));
        dueRefused(Sentences::busy, "throws " + ARITHMETIC, x -> x.share(0, 1));
    }
}
