/** Promises 14, 15 and 17: proofs with their days, and what is counted. */
public final class SentencesOfProofs extends Sentences {
    private static final int[] NO_KINDS = {-1, 2, 3, Integer.MIN_VALUE, Integer.MAX_VALUE};

    public static void main(String[] args) {
        proof();
        good();
        count();
        end();
    }

    private static void proof() {
        test(14, "A PROOF: its number, from 0 on", SentencesOfProofs::proofNumbers);
        test(14, "IllegalArgumentException if there is no such kind or days", "the kind",
                SentencesOfProofs::proofOfNoKind);
        test(14, "IllegalArgumentException if there is no such kind or days", "DAYS 0 .. 100000",
                SentencesOfProofs::proofOfNoDays);
        test(14, "from a day up to a later or equal one", SentencesOfProofs::proofDaysInOrder);
        test(14, "IllegalStateException if there are 20", SentencesOfProofs::proof21);
        test(14, "Of several exceptions the one told first is thrown",
                SentencesOfProofs::proof21WithWrongNumbers);
        test(14, "what else throws or is refused changes nothing", SentencesOfProofs::refusedProof);
    }

    private static void good() {
        test(15, "kind 0 (a certificate: a value up to 1000000 cents)", SentencesOfProofs::goodCertificate);
        test(15, "1 (of an approved one: any value)", SentencesOfProofs::goodApproved);
        test(15, "a day that is within them", SentencesOfProofs::goodDays);
        test(15, "GOOD for a value and a day", SentencesOfProofs::goodOfBoth);
        test(15, "Whether a proof is GOOD", "each proof alone", SentencesOfProofs::goodOfEach);
        test(15, "IllegalArgumentException if there is none such", SentencesOfProofs::goodOfNoProof);
        test(15, "or no such value or day", "the value", SentencesOfProofs::goodOfNoValue);
        test(15, "or no such value or day", "the day", SentencesOfProofs::goodOfNoDay);
        test(15, "what else throws or is refused changes nothing", SentencesOfProofs::refusedGood);
    }

    private static void count() {
        test(17, "what 0: signs of the text", SentencesOfProofs::countOfSigns);
        test(17, "1: rows", SentencesOfProofs::countOfRows);
        test(17, "2: parts", SentencesOfProofs::countOfParts);
        test(17, "3: FOREIGN parts", SentencesOfProofs::countOfForeignParts);
        test(17, "4: processes done, as bits", SentencesOfProofs::countOfProcesses);
        test(17, "5: joined pairs", SentencesOfProofs::countOfPairs);
        test(17, "6: proofs", SentencesOfProofs::countOfProofs);
        test(17, "7: factors asked by the latest verdict of 0 or 1", SentencesOfProofs::countOfFactors);
        test(17, "NONE for another what", SentencesOfProofs::countOfNone);
        test(17, "what else throws or is refused changes nothing", SentencesOfProofs::refusedCount);
    }

    private static OriginRules with20Proofs() {
        OriginRules x = new OriginRules();
        for (int i = 0; i < 20; i++) {
            x.proof(i % 2, i, 20 + i);
        }
        return x;
    }

    private static void proofNumbers() {
        OriginRules x = new OriginRules();
        for (int i = 0; i < 20; i++) {
            due("proof " + i, i, x.proof(i % 2, 5, 10));
            due("count(6)", i + 1, x.count(6));
        }
    }

    private static void proofOfNoKind() {
        OriginRules x = new OriginRules();
        for (int kind : NO_KINDS) {
            dueThrow("proof(" + kind + ", 0, 0)", ARGUMENT, () -> x.proof(kind, 0, 0));
        }
        due("count(6)", 0, x.count(6));
        due("proof(0, 0, 0)", 0, x.proof(0, 0, 0));
        due("proof(1, 0, 0)", 1, x.proof(1, 0, 0));
    }

    private static void proofOfNoDays() {
        OriginRules x = new OriginRules();
        for (int day : NO_DAYS) {
            dueThrow("proof(0, " + day + ", 100000)", ARGUMENT, () -> x.proof(0, day, 100000));
            dueThrow("proof(1, 0, " + day + ")", ARGUMENT, () -> x.proof(1, 0, day));
            dueThrow("proof(1, " + day + ", " + day + ")", ARGUMENT, () -> x.proof(1, day, day));
        }
        dueThrow("proof(0, least, greatest)", ARGUMENT,
                () -> x.proof(0, Integer.MIN_VALUE, Integer.MAX_VALUE));
        due("count(6)", 0, x.count(6));
        due("the first day", 0, x.proof(0, 0, 0));
        due("the last day", 1, x.proof(0, 100000, 100000));
        due("all days", 2, x.proof(0, 0, 100000));
    }

    private static void proofDaysInOrder() {
        OriginRules x = new OriginRules();
        due("later", 0, x.proof(0, 5, 6));
        due("equal", 1, x.proof(0, 5, 5));
        dueThrow("earlier", ARGUMENT, () -> x.proof(0, 5, 4));
        dueThrow("the first day behind the last", ARGUMENT, () -> x.proof(1, 100000, 0));
        dueThrow("a day behind the first", ARGUMENT, () -> x.proof(1, 1, 0));
        due("count(6)", 2, x.count(6));
    }

    private static void proof21() {
        OriginRules x = with20Proofs();
        dueThrow("proof 21", STATE, () -> x.proof(0, 0, 0));
        dueThrow("proof 21 of kind 1", STATE, () -> x.proof(1, 0, 100000));
        due("count(6)", 20, x.count(6));
        x.clear();
        dueThrow("proof 21 after clear()", STATE, () -> x.proof(0, 0, 0));
    }

    private static void proof21WithWrongNumbers() {
        OriginRules x = with20Proofs();
        for (int kind : NO_KINDS) {
            dueThrow("proof 21 of kind " + kind, ARGUMENT, () -> x.proof(kind, 0, 0));
        }
        for (int day : NO_DAYS) {
            dueThrow("proof 21 from " + day, ARGUMENT, () -> x.proof(0, day, 100000));
            dueThrow("proof 21 up to " + day, ARGUMENT, () -> x.proof(0, 0, day));
        }
        dueThrow("proof 21 with days turned", ARGUMENT, () -> x.proof(0, 1, 0));
    }

    private static void refusedProof() {
        dueRefused(Sentences::busy, "throws " + ARGUMENT, x -> x.proof(2, 0, 0));
        dueRefused(Sentences::busy, "throws " + ARGUMENT, x -> x.proof(0, -1, 0));
        dueRefused(Sentences::busy, "throws " + ARGUMENT, x -> x.proof(1, 0, 100001));
        dueRefused(Sentences::busy, "throws " + ARGUMENT, x -> x.proof(1, 6, 5));
        dueRefused(SentencesOfProofs::with20Proofs, "throws " + STATE, x -> x.proof(1, 0, 100000));
        dueRefused(SentencesOfProofs::with20Proofs, "throws " + ARGUMENT, x -> x.proof(2, 0, 100000));
    }

    private static void goodCertificate() {
        OriginRules x = new OriginRules();
        x.proof(0, 0, 100000);
        due("no value", true, x.good(0, 0, 5));
        due("a value below", true, x.good(0, 999999, 5));
        due("the greatest value", true, x.good(0, 1000000, 5));
        due("a cent above", false, x.good(0, 1000001, 5));
        due("the greatest of all", false, x.good(0, 1000000000L, 5));
    }

    private static void goodApproved() {
        OriginRules x = new OriginRules();
        x.proof(1, 0, 100000);
        long[] values = {0, 1, 999999, 1000000, 1000001, 999999999L, 1000000000L};
        for (long value : values) {
            due("a value of " + value, true, x.good(0, value, 5));
        }
    }

    private static void goodDays() {
        for (int kind = 0; kind <= 1; kind++) {
            OriginRules x = new OriginRules();
            x.proof(kind, 10, 20);
            x.proof(kind, 15, 15);
            x.proof(kind, 0, 0);
            x.proof(kind, 100000, 100000);
            int[][] due = {{0, 9, 0}, {0, 10, 1}, {0, 15, 1}, {0, 20, 1}, {0, 21, 0}, {0, 0, 0}, {0, 100000, 0},
                {1, 14, 0}, {1, 15, 1}, {1, 16, 0}, {2, 0, 1}, {2, 1, 0}, {3, 99999, 0}, {3, 100000, 1}};
            for (int[] d : due) {
                due("kind " + kind + ", good(" + d[0] + ", 5, " + d[1] + ")", d[2] == 1, x.good(d[0], 5, d[1]));
            }
        }
    }

    private static void goodOfBoth() {
        OriginRules x = new OriginRules();
        x.proof(0, 10, 20);
        due("value and day", true, x.good(0, 1000000, 10));
        due("value alone", false, x.good(0, 1000000, 9));
        due("day alone", false, x.good(0, 1000001, 10));
        due("none of both", false, x.good(0, 1000001, 9));
    }

    private static void goodOfEach() {
        OriginRules x = with20Proofs();
        for (int i = 0; i < 20; i++) {
            due("the day ahead of " + i, false, i > 0 && x.good(i, 0, i - 1));
            due("the first day of " + i, true, x.good(i, 0, i));
            due("the last day of " + i, true, x.good(i, 0, 20 + i));
            due("the day behind " + i, false, x.good(i, 0, 21 + i));
            due("a great value of " + i, i % 2 == 1, x.good(i, 1000001, i));
        }
    }

    private static void goodOfNoProof() {
        OriginRules x = new OriginRules();
        dueThrow("good(0, 0, 0) of a new object", ARGUMENT, () -> x.good(0, 0, 0));
        for (int proofs = 0; proofs < 20; proofs++) {
            x.proof(1, 0, 100000);
            int behind = proofs + 1;
            due("the last of " + behind, true, x.good(proofs, 0, 0));
            dueThrow("the one behind " + behind, ARGUMENT, () -> x.good(behind, 0, 0));
        }
        int[] none = {-1, 20, 21, 32, Integer.MIN_VALUE, Integer.MAX_VALUE};
        for (int proof : none) {
            dueThrow("good(" + proof + ", 0, 0)", ARGUMENT, () -> x.good(proof, 0, 0));
        }
    }

    private static void goodOfNoValue() {
        OriginRules x = new OriginRules();
        x.proof(0, 0, 10);
        x.proof(1, 0, 10);
        for (long cents : NO_CENTS) {
            dueThrow("good(0, " + cents + ", 5)", ARGUMENT, () -> x.good(0, cents, 5));
            dueThrow("good(1, " + cents + ", 5)", ARGUMENT, () -> x.good(1, cents, 5));
            dueThrow("good(1, " + cents + ", 11)", ARGUMENT, () -> x.good(1, cents, 11));
        }
    }

    private static void goodOfNoDay() {
        OriginRules x = new OriginRules();
        x.proof(0, 0, 100000);
        x.proof(1, 0, 100000);
        for (int day : NO_DAYS) {
            dueThrow("good(0, 5, " + day + ")", ARGUMENT, () -> x.good(0, 5, day));
            dueThrow("good(0, 1000001, " + day + ")", ARGUMENT, () -> x.good(0, 1000001, day));
            dueThrow("good(1, 5, " + day + ")", ARGUMENT, () -> x.good(1, 5, day));
        }
    }

    private static void refusedGood() {
        dueRefused(Sentences::busy, "throws " + ARGUMENT, x -> x.good(2, 0, 0));
        dueRefused(Sentences::busy, "throws " + ARGUMENT, x -> x.good(-1, 0, 0));
        dueRefused(Sentences::busy, "throws " + ARGUMENT, x -> x.good(0, -1, 5));
        dueRefused(Sentences::busy, "throws " + ARGUMENT, x -> x.good(0, 0, 100001));
    }

    private static void countOfSigns() {
        OriginRules x = new OriginRules();
        for (int signs = 1; signs <= 200; signs++) {
            x.sign(33);
            due("count(0)", signs, x.count(0));
        }
        x.read();
        due("count(0) after read()", 0, x.count(0));
    }

    private static void countOfRows() {
        OriginRules x = with("1:W;2:W;");
        due("count(1)", 2, x.count(1));
        read(x, "1:W;2:W;3:W;");
        due("count(1) of more", 3, x.count(1));
        read(x, "1:W;");
        due("count(1) of fewer", 1, x.count(1));
        read(x, "1:W;2:W;x");
        due("count(1) after a wrong read", 1, x.count(1));
    }

    private static void countOfParts() {
        OriginRules x = new OriginRules();
        for (int parts = 1; parts <= 12; parts++) {
            x.part(1, parts % 3, 0);
            due("count(2)", parts, x.count(2));
        }
        x.clear();
        due("count(2) after clear()", 0, x.count(2));
    }

    private static void countOfForeignParts() {
        OriginRules x = new OriginRules();
        for (int parts = 0; parts < 12; parts++) {
            x.part(1, parts % 3, 0);
        }
        due("count(3)", 8, x.count(3));
        x.join(0, 1);
        due("count(3) with a land joined", 4, x.count(3));
        x.join(1, 2);
        due("count(3) with a land joined to it", 4, x.count(3));
        x.full(true);
        due("count(3), full", 0, x.count(3));
        x.full(false);
        x.clear();
        due("count(3) after clear()", 0, x.count(3));
    }

    private static void countOfProcesses() {
        OriginRules x = new OriginRules();
        processes(x, 0);
        due("count(4)", 1, x.count(4));
        processes(x, 15);
        due("count(4) with the last", 32769, x.count(4));
        processes(x, 1, 2, 3, 4, 5, 6, 7, 8, 9, 10, 11, 12, 13, 14);
        due("count(4) of all", 65535, x.count(4));
        x.bar(3, true);
        due("count(4) after bar", 65535, x.count(4));
        x.clear();
        due("count(4) after clear()", 0, x.count(4));
    }

    private static void countOfPairs() {
        OriginRules x = new OriginRules();
        x.join(0, 1);
        x.join(1, 0);
        x.join(1, 2);
        x.join(2, 0);
        due("count(5)", 3, x.count(5));
        x.full(true);
        x.clear();
        due("count(5), full, after clear()", 3, x.count(5));
    }

    private static void countOfProofs() {
        OriginRules x = with20Proofs();
        due("count(6)", 20, x.count(6));
        x.clear();
        due("count(6) after clear()", 20, x.count(6));
    }

    private static void countOfFactors() {
        OriginRules x = with("1:P0|P0|P0;2:W;3:(((W)))&W&P0&P1;");
        due("count(7) ahead of a verdict", 0, x.count(7));
        x.verdict(100000, 1);
        due("count(7) of a verdict of 0", 3, x.count(7));
        x.verdict(900000, 1);
        due("count(7) after a verdict of 3", 3, x.count(7));
        x.verdict(200000, 1);
        due("count(7) of a verdict of 1", 1, x.count(7));
        x.verdict(300000, 1);
        due("count(7) with brackets", 3, x.count(7));
        processes(x, 5);
        x.bar(5, true);
        x.verdict(200000, 1);
        due("count(7) after a verdict of 2", 3, x.count(7));
    }

    private static void countOfNone() {
        OriginRules x = busy();
        int[] none = {-1, 8, 9, -8, 256, 1 << 16, Integer.MIN_VALUE, Integer.MAX_VALUE};
        for (int what : none) {
            due("count(" + what + ")", OriginRules.NONE, x.count(what));
        }
    }

    private static void refusedCount() {
        dueRefused(Sentences::busy, "-1", x -> x.count(8));
        dueRefused(Sentences::busy, "-1", x -> x.count(-1));
    }
}
