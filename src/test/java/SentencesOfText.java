import java.lang.reflect.Method;
import java.lang.reflect.Modifier;
import java.util.ArrayList;
import java.util.Comparator;
import java.util.List;

/** Promises 1 to 3: a new object, the signs of the text, and how it is read. */
public final class SentencesOfText extends Sentences {
    private static final String DIGITS = "0123456789";
    private static final String FACTORS = "WCHSVP(";

    public static void main(String[] args) {
        newObject();
        sign();
        readRows();
        readFactors();
        readWrongPlaces();
        readLimits();
        readChanges();
        end();
    }

    private static void newObject() {
        test(1, "public final class OriginRules", SentencesOfText::faceIsThatOfTheDocument);
        test(1, "No rules, parts, joined lands, processes", "rules", SentencesOfText::newHasNoRules);
        test(1, "No rules, parts, joined lands, processes", "parts", SentencesOfText::newHasNoParts);
        test(1, "No rules, parts, joined lands, processes", "joined lands",
                SentencesOfText::newHasNoJoinedLands);
        test(1, "No rules, parts, joined lands, processes", "processes", SentencesOfText::newHasNoProcesses);
        test(1, "A new object", "what else there could be", SentencesOfText::newHasNothingElse);
        test(1, "An object is used for at most 512 calls", SentencesOfText::callNumber512);
    }

    private static void sign() {
        test(2, "A sign comes to the text: true", SentencesOfText::signComes);
        test(2, "false if it is not 33 .. 126, or there are 300", "it is not 33 .. 126",
                SentencesOfText::signThatIsNone);
        test(2, "false if it is not 33 .. 126, or there are 300", "there are 300", SentencesOfText::sign301);
        test(2, "what else throws or is refused changes nothing", SentencesOfText::refusedSign);
    }

    private static void readRows() {
        test(3, "how many rows", SentencesOfText::readTellsRows);
        test(3, "digits of a code's beginning (1 to 6)", SentencesOfText::rowDigits);
        test(3, "digits of a code's beginning (1 to 6), : , a RULE, ;", "in this order",
                SentencesOfText::rowSigns);
        test(3, "TERMS with | between any two", SentencesOfText::terms);
        test(3, "FACTORS with & between", SentencesOfText::factors);
    }

    private static void readFactors() {
        test(3, "C, H, S change of chapter, heading, code", "and W: letters without digits",
                SentencesOfText::plainLetters);
        test(3, "V and 1 to 3 digits (0 .. 100)", SentencesOfText::hundredths);
        test(3, "P and 1 or 2 digits (0 .. 15)", SentencesOfText::processNumbers);
        test(3, "( RULE ) as it is", SentencesOfText::brackets);
        test(3, "Brackets 8 deep at most", SentencesOfText::bracketsEightDeep);
    }

    private static void readWrongPlaces() {
        test(3, "-1 less THE FIRST WRONG PLACE", SentencesOfText::firstWrongPlace);
        test(3, "the first sign that can't stand where it does",
                SentencesOfText::everySignAtEveryKindOfPlace);
        test(3, "a digit too many", SentencesOfText::digitTooMany);
        test(3, "of a V above 100 or a P above 15 the sign behind its digits", "V",
                SentencesOfText::hundredthsAbove100);
        test(3, "of a V above 100 or a P above 15 the sign behind its digits", "P",
                SentencesOfText::processAbove15);
        test(3, "the ninth bracket within one another", SentencesOfText::ninthBracket);
        test(3, "the length if the text ends too early", SentencesOfText::textEndsTooEarly);
        test(3, "also an empty one", SentencesOfText::emptyText);
    }

    private static void readLimits() {
        test(3, "20 rows at most", SentencesOfText::twentyRows);
        test(3, "the 21st's first sign is wrong", SentencesOfText::row21);
        test(3, "THE TEXT (300 signs at most)", SentencesOfText::textOf300);
    }

    private static void readChanges() {
        test(3, "in place of those ahead", SentencesOfText::rowsInPlaceOfThoseAhead);
        test(3, "Read it is whole or not at all", SentencesOfText::wholeOrNotAtAll);
        test(3, "Reading uses up the text", SentencesOfText::readingUsesUpTheText);
        test(3, "is collected sign by sign and READ as rows", "collecting alone changes no rows",
                SentencesOfText::collectingChangesNoRows);
        test(3, "Reading uses up the text; what else throws or is refused changes nothing", "a wrong text",
                SentencesOfText::refusedRead);
    }

    private static void faceIsThatOfTheDocument() {
        StringBuilder face = new StringBuilder();
        for (Method m : sortedMethods()) {
            face.append(m.getReturnType().getName()).append(' ').append(m.getName());
            for (Class<?> type : m.getParameterTypes()) {
                face.append(' ').append(type.getName());
            }
            face.append("; ");
        }
        due("the methods", "boolean bar int boolean; int clear; int count int; boolean full boolean; "
                + "boolean good int long int; int join int int; boolean own int; int part int int long; "
                + "boolean process int; int proof int int int; int read; long share long int; boolean sign int; "
                + "boolean tolerance int int; int verdict int long; int why int; ", face.toString());
        due("NONE", -1, OriginRules.NONE);
        due("final", true, Modifier.isFinal(OriginRules.class.getModifiers()));
        due("constructors", 1, OriginRules.class.getConstructors().length);
    }

    private static List<Method> sortedMethods() {
        List<Method> all = new ArrayList<>();
        for (Method m : OriginRules.class.getDeclaredMethods()) {
            if (!Modifier.isPrivate(m.getModifiers())) {
                all.add(m);
            }
        }
        all.sort(Comparator.comparing(Method::getName));
        return all;
    }

    private static void newHasNoRules() {
        OriginRules x = new OriginRules();
        due("count(1)", 0, x.count(1));
        int[] codes = {1, 12345, 100000, 999999};
        for (int code : codes) {
            due("verdict(" + code + ", 0)", 3, x.verdict(code, 0));
            due("verdict(" + code + ", 100)", 3, x.verdict(code, 100));
        }
    }

    private static void newHasNoParts() {
        OriginRules x = with("1:W;");
        due("count(2)", 0, x.count(2));
        due("count(3)", 0, x.count(3));
        due("share(5, side)", "0 / 1", share(x, 5));
        due("wholly obtained", 1, x.verdict(100000, 5));
        due("clear()", 0, x.clear());
    }

    private static void newHasNoJoinedLands() {
        OriginRules x = new OriginRules();
        due("count(5)", 0, x.count(5));
        due("own lands", "1000000000", owns(x));
        x.full(true);
        due("own lands, full", "1000000000", owns(x));
    }

    private static void newHasNoProcesses() {
        OriginRules x = with("1:P0|P1|P2|P3|P4|P5|P6|P7|P8|P9|P10|P11|P12|P13|P14|P15;");
        due("count(4)", 0, x.count(4));
        due("one of all processes", 0, x.verdict(100000, 1));
        due("asked", 16, x.count(7));
    }

    private static void newHasNothingElse() {
        OriginRules x = new OriginRules();
        due("signs", 0, x.count(0));
        due("proofs", 0, x.count(6));
        dueThrow("good(0, 0, 0)", ARGUMENT, () -> x.good(0, 0, 0));
        due("factors asked", 0, x.count(7));
        due("why(0)", -1, x.why(0));
        for (int p = 0; p < 16; p++) {
            due("bar(" + p + ", false)", false, x.bar(p, false));
        }
        OriginRules other = busy();
        due("a busy object's rows", 3, other.count(1));
        for (int what = 0; what < 8; what++) {
            due("count(" + what + ") beside a busy object", 0, x.count(what));
        }
    }

    private static void callNumber512() {
        OriginRules x = with("1:P3;");
        for (int call = 7; call <= 510; call++) {
            x.full(call % 2 == 0);
        }
        due("call 511", true, x.process(3));
        due("call 512", 1, x.verdict(100000, 0));
    }

    private static void signComes() {
        OriginRules x = new OriginRules();
        for (int c = 33; c <= 126; c++) {
            due("sign(" + c + ")", true, x.sign(c));
            due("count(0)", c - 32, x.count(0));
        }
    }

    private static void signThatIsNone() {
        OriginRules x = new OriginRules();
        // Cut to a char or a byte, some of these would be a 1
        int[] none = {32, 127, 31, 128, 0, -1, -33, -126, 255, 256 + 49, 65536 + 49, 49 - 65536, 49 - 256,
            Integer.MIN_VALUE, Integer.MIN_VALUE + 49, Integer.MAX_VALUE};
        for (int c : none) {
            due("sign(" + c + ")", false, x.sign(c));
            due("count(0)", 0, x.count(0));
        }
        due("read() of none", -1, x.read());
        due("read() of what is left", 1, read(x, "1:W;"));
    }

    private static void sign301() {
        OriginRules x = new OriginRules();
        write(x, times(299, "1"));
        due("a wrong sign at 299", false, x.sign(32));
        due("sign 300", true, x.sign(126));
        due("sign 301", false, x.sign(49));
        due("sign 301 again", false, x.sign(33));
        due("a wrong sign at 300", false, x.sign(127));
        due("count(0)", 300, x.count(0));
        x.read();
        due("a sign after read()", true, x.sign(49));
        due("count(0) after read()", 1, x.count(0));
    }

    private static void refusedSign() {
        dueRefused(Sentences::busy, "false", x -> x.sign(32));
        dueRefused(Sentences::busy, "false", x -> x.sign(127));
        dueRefused(SentencesOfText::with300Signs, "false", x -> x.sign(';'));
    }

    private static OriginRules with300Signs() {
        OriginRules x = new OriginRules();
        write(x, times(14, "1:W|W;2:W&W|W&W;3:V9;") + "1:W|W;");
        return x;
    }

    private static void readTellsRows() {
        for (int rows = 1; rows <= 20; rows++) {
            OriginRules x = new OriginRules();
            due("read() of " + rows, rows, read(x, times(rows, "12:C&(H|S);")));
            due("count(1)", rows, x.count(1));
        }
    }

    private static void rowDigits() {
        dueWrongPlace(":W;", 0);
        dueWrongPlace("1:W;:W;", 4);
        for (int digits = 1; digits <= 6; digits++) {
            dueRead("987654".substring(0, digits) + ":W;", 1);
            dueRead("000001".substring(0, digits) + ":W;", 1);
            dueRead("1:W;" + "123456".substring(0, digits) + ":W;", 2);
        }
        dueWrongPlace("1234567:W;", 6);
        dueWrongPlace("0000001:W;", 6);
        dueWrongPlace("1:W;1234567:W;", 10);
    }

    private static void rowSigns() {
        dueWrongPlace("1W;", 1);
        dueWrongPlace("1;", 1);
        dueWrongPlace("1::W;", 2);
        dueWrongPlace("1:;", 2);
        dueWrongPlace("1:W:", 3);
        dueWrongPlace("1:W2:W;", 3);
        dueWrongPlace("1:W;;", 4);
        dueWrongPlace("1:W;W;", 4);
        dueWrongPlace(";1:W;", 0);
        dueRead("1:W;2:W;", 2);
    }

    private static void terms() {
        dueRead("1:W|C;", 1);
        dueRead("1:W|C|H|S|V1|P1;", 1);
        dueRead("1:W&C|H&S;", 1);
        dueWrongPlace("1:|W;", 2);
        dueWrongPlace("1:W|;", 4);
        dueWrongPlace("1:W||C;", 4);
        dueWrongPlace("1:W|&C;", 4);
        dueWrongPlace("1:(|W);", 3);
        dueWrongPlace("1:(W|);", 5);
    }

    private static void factors() {
        dueRead("1:W&C;", 1);
        dueRead("1:W&C&H&S&V1&P1;", 1);
        dueWrongPlace("1:&W;", 2);
        dueWrongPlace("1:W&;", 4);
        dueWrongPlace("1:W&&C;", 4);
        dueWrongPlace("1:W&|C;", 4);
        dueWrongPlace("1:WC;", 3);
        dueWrongPlace("1:(W)C;", 5);
        dueWrongPlace("1:(W)(C);", 5);
        dueWrongPlace("1:W(C);", 3);
        dueWrongPlace("1:P1W;", 4);
    }

    private static void plainLetters() {
        for (char letter : "WCHS".toCharArray()) {
            dueRead("1:" + letter + ";", 1);
            dueWrongPlace("1:" + letter + "1;", 3);
            dueWrongPlace("1:" + Character.toLowerCase(letter) + ";", 2);
        }
    }

    private static void hundredths() {
        dueWrongPlace("1:V;", 3);
        for (int digits = 1; digits <= 3; digits++) {
            int above = (int) Math.pow(10, digits);
            for (int n = 0; n < above && n <= 100; n++) {
                dueRead("1:V" + String.valueOf(above + n).substring(1) + ";", 1);
            }
        }
        dueWrongPlace("1:V101;", 6);
        dueWrongPlace("1:V0100;", 6);
        dueWrongPlace("1:V-1;", 3);
    }

    private static void processNumbers() {
        dueWrongPlace("1:P;", 3);
        for (int p = 0; p <= 15; p++) {
            dueRead("1:P" + p + ";", 1);
            dueRead("1:P" + (p < 10 ? "0" : "") + p + ";", 1);
        }
        dueWrongPlace("1:P16;", 5);
        dueWrongPlace("1:P015;", 5);
        dueWrongPlace("1:P-1;", 3);
    }

    private static void brackets() {
        dueRead("1:(W);", 1);
        dueRead("1:(W|C)&(H|(S&V1));", 1);
        dueRead("1:((P1));", 1);
        dueWrongPlace("1:();", 3);
        dueWrongPlace("1:(W;", 4);
        dueWrongPlace("1:W);", 3);
        dueWrongPlace("1:(W));", 5);
        dueWrongPlace("1:((W);", 6);
        dueWrongPlace("1:);", 2);
        dueWrongPlace("1:(W;2:W);", 4);
        dueWrongPlace("(1:W;)", 0);
    }

    private static void bracketsEightDeep() {
        for (int deep = 1; deep <= 8; deep++) {
            dueRead("1:" + times(deep, "(") + "W" + times(deep, ")") + ";", 1);
        }
        String eight = "((((((((W))))))))";
        dueRead("1:" + eight + "&" + eight + "|" + eight + ";", 1);
        dueRead("1:" + eight + ";2:" + eight + ";", 2);
        dueRead("1:((((((((W)&(W))))))))&W;", 1);
        dueRead("1:" + times(50, "(W)|") + "(W);", 1);
    }

    private static void firstWrongPlace() {
        dueWrongPlace("x1:W;", 0);
        dueWrongPlace("1x:W;", 1);
        dueWrongPlace("1:x;2:y;", 2);
        dueWrongPlace("1:W;2:x;3:y;", 6);
        dueWrongPlace("1:W;2:V101;3:x;", 10);
        dueWrongPlace("1:W;2:W;3:W;x", 12);
    }

    /** What can stand behind each beginning; of all other signs the place is the first wrong one. */
    private static void everySignAtEveryKindOfPlace() {
        String[][] beginnings = {
            {"", DIGITS}, {"1", DIGITS + ":"}, {"12345", DIGITS + ":"}, {"123456", ":"},
            {"1:", FACTORS}, {"1:W", "&|;"}, {"1:C", "&|;"}, {"1:H", "&|;"}, {"1:S", "&|;"},
            {"1:W&", FACTORS}, {"1:W|", FACTORS}, {"1:(W)&", FACTORS}, {"1:(W)|", FACTORS},
            {"1:V", DIGITS}, {"1:V1", DIGITS + "&|;"}, {"1:V99", DIGITS + "&|;"}, {"1:V100", "&|;"},
            {"1:V000", "&|;"}, {"1:V101", ""}, {"1:V110", ""}, {"1:V200", ""}, {"1:V999", ""},
            {"1:P", DIGITS}, {"1:P9", DIGITS + "&|;"}, {"1:P15", "&|;"}, {"1:P00", "&|;"},
            {"1:P16", ""}, {"1:P20", ""}, {"1:P99", ""},
            {"1:(", FACTORS}, {"1:(W", "&|)"}, {"1:(V", DIGITS}, {"1:(V100", "&|)"},
            {"1:(P1", DIGITS + "&|)"}, {"1:(P16", ""}, {"1:(W&", FACTORS}, {"1:(W|", FACTORS},
            {"1:(W)", "&|;"}, {"1:((W)", "&|)"}, {"1:((W))", "&|;"},
            {"1:(((((((", FACTORS}, {"1:((((((((", "WCHSVP"}, {"1:((((((((W", "&|)"},
            {"1:((((((((W&", "WCHSVP"}, {"1:((((((((W)|", FACTORS}, {"1:((((((((W))))))))", "&|;"},
            {"1:W;", DIGITS}, {"1:(W);", DIGITS}, {"1:W;2", DIGITS + ":"}, {"1:W;123456", ":"},
            {"1:W;2:", FACTORS}, {"1:W;2:W", "&|;"},
            {times(19, "1:W;"), DIGITS}, {times(20, "1:W;"), ""},
        };
        for (String[] beginning : beginnings) {
            for (char c = 33; c <= 126; c++) {
                int got = read(new OriginRules(), beginning[0] + c);
                boolean isWrongPlace = got == -1 - beginning[0].length();
                due("a wrong place for the last sign of " + beginning[0] + c,
                        beginning[1].indexOf(c) < 0, isWrongPlace);
            }
        }
    }

    private static void digitTooMany() {
        dueWrongPlace("1234567", 6);
        dueWrongPlace("12345678:W;", 6);
        dueWrongPlace("1:V1000;", 6);
        dueWrongPlace("1:V0001;", 6);
        dueWrongPlace("1:V0000", 6);
        dueWrongPlace("1:P100;", 5);
        dueWrongPlace("1:P001;", 5);
        dueWrongPlace("1:P0000000001;", 5);
        dueWrongPlace("1:V4294967297;", 6);
    }

    private static void hundredthsAbove100() {
        for (int n = 101; n <= 999; n++) {
            dueWrongPlace("1:V" + n + ";", 6);
        }
        dueWrongPlace("1:V101", 6);
        dueWrongPlace("1:V101&W;", 6);
        dueWrongPlace("1:(V101);", 7);
        dueWrongPlace("1:V1010;", 6);
        dueWrongPlace("1:W|V101|x;", 8);
    }

    private static void processAbove15() {
        for (int n = 16; n <= 99; n++) {
            dueWrongPlace("1:P" + n + ";", 5);
        }
        dueWrongPlace("1:P16", 5);
        dueWrongPlace("1:P16|W;", 5);
        dueWrongPlace("1:(P16);", 6);
        dueWrongPlace("1:P160;", 5);
        dueWrongPlace("1:W&P16&x;", 7);
    }

    private static void ninthBracket() {
        dueWrongPlace("1:(((((((((W)))))))));", 10);
        dueWrongPlace("1:(((((((((", 10);
        dueWrongPlace("1:((((((((((((", 10);
        dueWrongPlace("1:(W&((((((((W", 12);
        dueWrongPlace("1:(W)&(((((((((W", 14);
        dueWrongPlace("1:((((((((W)|((W", 14);
        dueWrongPlace("1:((((((((W))))))));2:(((((((((W", 30);
    }

    private static void textEndsTooEarly() {
        String text = "12:(W|V40)&P3;123456:((S|H)&(C|P15))|V100;0:W;";
        int rows = 0;
        for (int length = 1; length <= text.length(); length++) {
            if (text.charAt(length - 1) == ';') {
                rows++;
                dueRead(text.substring(0, length), rows);
            } else {
                dueWrongPlace(text.substring(0, length), length);
            }
        }
    }

    private static void emptyText() {
        OriginRules x = new OriginRules();
        due("read() of a new object", -1, x.read());
        due("read() of rows", 1, read(x, "1:W;"));
        due("read() behind it", -1, x.read());
        due("rows stay", 1, x.count(1));
    }

    private static void twentyRows() {
        String rows = times(19, "1:P1;") + "2:P2;";
        OriginRules x = with(rows);
        due("count(1)", 20, x.count(1));
        processes(x, 2);
        due("the first row", 0, x.verdict(100000, 0));
        due("the 20th row", 1, x.verdict(200000, 0));
        due("20 rows in place of 20", 20, read(x, times(20, "3:W;")));
        due("count(1) again", 20, x.count(1));
        dueWrongPlace(rows.substring(0, 99), 99);
        dueWrongPlace(rows.substring(0, 98) + "x;", 98);
    }

    private static void row21() {
        String rows = times(20, "1:W;");
        dueWrongPlace(rows + "1", 80);
        dueWrongPlace(rows + "1:W;", 80);
        dueWrongPlace(rows + "1:W;1:W;", 80);
        dueWrongPlace(rows + "1x", 80);
        dueWrongPlace(rows + ";", 80);
        String longer = times(20, "123456:W&W;");
        dueWrongPlace(longer + "1:W;", 220);
    }

    private static void textOf300() {
        String text = "1:" + times(148, "W|") + "W;";
        dueRead(text, 1);
        dueWrongPlace(text.substring(0, 299) + "|", 300);
        dueWrongPlace(text.substring(0, 299) + ":", 299);
        dueWrongPlace(text.substring(0, 298) + "w;", 298);
        dueWrongPlace(times(19, "123456:(W)|V99;") + "123456:(W)|V100", 300);
        dueRead(times(20, "123456:(W)|V99;"), 20);
    }

    private static void rowsInPlaceOfThoseAhead() {
        OriginRules x = with("1:W;2:W;3:W;4:W;5:W;");
        due("rows", 5, x.count(1));
        due("read again", 1, read(x, "6:W;"));
        due("rows now", 1, x.count(1));
        due("the new row", 1, x.verdict(600000, 0));
        for (int code = 100000; code <= 500000; code += 100000) {
            due("a row that was, of " + code, 3, x.verdict(code, 0));
        }
        due("read more", 2, read(x, "6:P1;7:W;"));
        due("rows of the third read", 2, x.count(1));
        due("the rule in place of the one ahead", 0, x.verdict(600000, 0));
    }

    private static void wholeOrNotAtAll() {
        OriginRules x = with("1:W;2:W;");
        due("a read that ends in its third row", -12, read(x, "3:W;1:P1;3:"));
        due("rows", 2, x.count(1));
        due("a row ahead", 1, x.verdict(100000, 0));
        due("the other row ahead", 1, x.verdict(200000, 0));
        due("no row of the wrong text", 3, x.verdict(300000, 0));
        due("21 rows", -81, read(x, times(21, "4:W;")));
        due("rows after 21", 2, x.count(1));
        due("no row of the 21", 3, x.verdict(400000, 0));
        due("an empty one", -1, x.read());
        due("rows after an empty one", 2, x.count(1));
    }

    private static void readingUsesUpTheText() {
        OriginRules x = with("1:W;");
        due("signs after a right one", 0, x.count(0));
        due("a wrong one", -4, read(x, "1:W"));
        due("signs after a wrong one", 0, x.count(0));
        due("what would have ended the wrong one", -1, read(x, ";"));
        due("a right one after wrong ones", 2, read(x, "2:W;3:W;"));
    }

    private static void collectingChangesNoRows() {
        OriginRules x = with("1:W;2:P1;");
        write(x, "3:W;1:P1;2:W;");
        due("signs", 13, x.count(0));
        due("rows", 2, x.count(1));
        due("the first row", 1, x.verdict(100000, 0));
        due("the second row", 0, x.verdict(200000, 0));
        due("no third row", 3, x.verdict(300000, 0));
        due("then they are read", 3, x.read());
        due("the third row", 1, x.verdict(300000, 0));
    }

    private static void refusedRead() {
        dueRefused(Sentences::busyWithoutText, "-1", x -> x.read());
        dueRefused(Sentences::busyWithoutText, "-5", x -> read(x, "4:W|x"));
        dueRefused(Sentences::busyWithoutText, "-9", x -> read(x, "11:W;2:W"));
        dueRefused(Sentences::busyWithoutText, "-81", x -> read(x, times(21, "2:W;")));
    }
}
