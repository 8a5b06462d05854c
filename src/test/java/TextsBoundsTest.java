/** The boundary cases of texts, under "Texts" and promises 22 to 25, a test for each sentence. */
public final class TextsBoundsTest {
    private static final int BAD_VALUE = SplitSecrets.BAD_VALUE, BAD_TEXT = SplitSecrets.BAD_TEXT;
    private static final int TOO_MANY = SplitSecrets.TOO_MANY, NONE = SplitSecrets.NONE;
    private static final String DIGITS = "0123456789", LETTERS = "krumzltb", STORES = "ab";
    private static final String FULL = "r0;".repeat(26) + "r0";
    private static final Check check = new Check("TextsBoundsTest");

    public static void main(String[] args) {
        putTakes1To8Characters();
        putRefusesCodesBeside33To126();
        putRefusesBitsAboveNoMoreCharacters();
        putNeedsACharacter();
        putInTheirOrder();
        padOfAtMost80();
        wipeReturnsTheLength();
        whatCanStandWhere();
        numbersUpTo999();
        noLeadingZeros();
        endsTooEarly();
        emptyTextsFault();
        theFirstFaultCounts();
        textsOf80Characters();
        ordersWithTheirGreatestValues();
        ordersWithTheirFirstRefusedValues();
        lieWithoutATagsOffset();
        stealWithoutAVersion();
        carryOutUpToTheFirstError();
        carryOutIsOneChange();
        carryOutAlsoIfNoneIsCarriedOut();
        carryOutEmptiesThePad();
        carryOutBadText();
        answersOfNoErrorGoOn();
        check.end();
    }

    // ---- put

    private static void putTakes1To8Characters() {
        check.says("characters: 1 to 8 characters");
        String text = "!~k19;zb";
        for (int length = 1; length <= 8; length++) {
            SplitSecrets x = new SplitSecrets();
            check.due("put " + length, x.put(Texts.number(text.substring(0, length))), length);
            check.due("the pad", x.count(14), length);
            check.due("put " + length + " more", x.put(Texts.number(text.substring(8 - length))), 2 * length);
        }
    }

    private static void putRefusesCodesBeside33To126() {
        check.says("a code is not 33 to 126");
        SplitSecrets x = new SplitSecrets();
        for (int place = 0; place < 8; place++) {
            // At each place of eight characters, the others being 'k'.
            long others = Texts.number("kkkkkkkk") & ~(255L << 8 * place);
            int[] bad = {0, 1, 31, 32, 127, 128, 129, 254, 255};
            for (int code : bad) {
                if (code > 0 || place < 7) {
                    check.due("code " + code + " at " + place, x.put(others | (long) code << 8 * place), BAD_VALUE);
                }
            }
            check.due("the pad", x.count(14), 0);
            check.due("code 33 at " + place, x.put(others | 33L << 8 * place), 8);
            check.due("code 126 at " + place, x.put(others | 126L << 8 * place), 16);
            check.due("wipe", x.wipe(), 16);
        }
        for (int code = 0; code < 256; code++) {
            SplitSecrets alone = new SplitSecrets();
            check.due("code " + code + " alone", alone.put(code), code >= 33 && code <= 126 ? 1 : BAD_VALUE);
        }
    }

    private static void putRefusesBitsAboveNoMoreCharacters() {
        check.says("8 bits that are 0 mean that there are no more characters, and everything above them has to be 0, too");
        SplitSecrets x = new SplitSecrets();
        for (int characters = 0; characters < 8; characters++) {
            long some = Texts.number("kkkkkkkk".substring(0, characters));
            for (int bit = 8 * characters + 8; bit < 64; bit++) {
                check.due(characters + " characters and the bit " + bit, x.put(some | 1L << bit), BAD_VALUE);
            }
        }
        check.due("a character above", x.put(Texts.number("k\0k")), BAD_VALUE);
        check.due("the pad", x.count(14), 0);
    }

    private static void putNeedsACharacter() {
        check.says("BAD_VALUE if there is no character");
        SplitSecrets x = new SplitSecrets();
        check.due("put(0)", x.put(0), BAD_VALUE);
        check.due("put(1 << 32)", x.put(1L << 32), BAD_VALUE);
        check.due("put(MIN)", x.put(Long.MIN_VALUE), BAD_VALUE);
        check.due("put(MAX)", x.put(Long.MAX_VALUE), BAD_VALUE);
        check.due("put(-1)", x.put(-1), BAD_VALUE);
        check.due("the pad", x.count(14), 0);
    }

    private static void putInTheirOrder() {
        check.says("its lowest 8 bits are the last character, the next 8 bits the one before, and so on");
        SplitSecrets x = new SplitSecrets();
        x.put('k' << 16 | '7' << 8 | '9');
        check.due("k79", x.carryOut(), 1);
        check.due("the secret", x.merge(0), 79);
        x.put('k' << 8 | '2');
        x.put('0' << 8 | '1');
        check.due("k201", x.carryOut(), 1);
        check.due("the secret", x.merge(1), 201);
    }

    private static void padOfAtMost80() {
        check.says("The pad is a text of at most 80 characters; TOO_MANY if the pad would be longer than 80");
        for (int length = 72; length <= 80; length++) {
            for (int more = 1; more <= 8; more++) {
                SplitSecrets x = Made.withPad(FULL.substring(0, length));
                int due = length + more <= 80 ? length + more : TOO_MANY;
                check.due(more + " more than " + length, x.put(Texts.number("bbbbbbbb".substring(0, more))), due);
                check.due("the pad", x.count(14), due == TOO_MANY ? length : due);
            }
        }
        SplitSecrets x = Made.withPad(FULL);
        check.due("a full pad, and a blank", x.put(' '), BAD_VALUE);
        check.due("a full pad, and none", x.put(0), BAD_VALUE);
        check.due("a full pad", x.fault(), NONE);
        x.wipe();
        check.due("room again", x.put(Texts.number("r0;r0;r0")), 8);
    }

    private static void wipeReturnsTheLength() {
        check.says("Empties the pad, and returns the length that it had.");
        SplitSecrets x = new SplitSecrets();
        check.due("empty", x.wipe(), 0);
        Texts.put(x, "k");
        check.due("one", x.wipe(), 1);
        check.due("empty again", x.wipe(), 0);
        Texts.put(x, FULL);
        check.due("full", x.wipe(), 80);
        check.due("the pad", x.count(14), 0);
        check.due("no change", x.count(15), 0);
    }

    // ---- fault

    /** Behind this beginning of a text these characters can stand, and no other one; whether it can end there. */
    private static void behind(String beginning, String canStand, boolean canEnd) {
        SplitSecrets x = new SplitSecrets();
        check.due(beginning, Texts.faultOf(x, beginning), canEnd ? NONE : beginning.length());
        for (char sign = 33; sign <= 126; sign++) {
            int fault = Texts.faultOf(x, beginning + sign);
            boolean stands = fault == NONE || fault == beginning.length() + 1;
            check.holds(beginning + sign, stands == canStand.indexOf(sign) >= 0);
            check.holds(beginning + sign + " has no earlier fault", stands || fault == beginning.length());
        }
    }

    private static void whatCanStandWhere() {
        check.says("The fault is the index of the first character that cannot stand at its place when the text is read from left to right");
        behind("", LETTERS, false);
        for (char letter : "kb".toCharArray()) {
            behind("" + letter, DIGITS, false);
            behind(letter + "5", DIGITS + ";", true);
        }
        for (char letter : "rum".toCharArray()) {
            behind("" + letter, DIGITS, false);
            behind(letter + "0", ";", true);
            behind(letter + "9", ";", true);
        }
        behind("z", STORES, false);
        behind("za", ";", true);
        behind("zb", ";", true);
        behind("l", STORES, false);
        behind("la", DIGITS, false);
        behind("lb", DIGITS, false);
        behind("la9", "+", false);
        behind("lb0+", DIGITS, false);
        behind("lb0+1", DIGITS + ",;", true);
        behind("lb0+1,", DIGITS, false);
        behind("lb0+1,7", DIGITS + ";", true);
        behind("t", STORES, false);
        behind("ta", DIGITS, false);
        behind("tb", DIGITS, false);
        behind("ta9", ".;", true);
        behind("tb0.", DIGITS, false);
        behind("tb0.1", DIGITS + ";", true);
        behind("k1;", LETTERS, false);
        behind("za;tb0;", LETTERS, false);
    }

    private static void numbersUpTo999() {
        check.says("(also of a digit by which a number would be above 999)");
        behind("k99", DIGITS + ";", true);
        behind("k100", ";", true);
        behind("k999", ";", true);
        behind("b999", ";", true);
        behind("la0+99", DIGITS + ",;", true);
        behind("la0+999", ",;", true);
        behind("la0+1,99", DIGITS + ";", true);
        behind("la0+1,999", ";", true);
        behind("ta0.99", DIGITS + ";", true);
        behind("ta0.999", ";", true);
        SplitSecrets x = new SplitSecrets();
        check.due("k1000", Texts.faultOf(x, "k1000"), 4);
        check.due("k10000000000", Texts.faultOf(x, "k10000000000"), 4);
    }

    private static void noLeadingZeros() {
        check.says("A digit is 0 to 9, a number 0 to 999, without leading zeros.");
        behind("k0", ";", true);
        behind("b0", ";", true);
        behind("la0+0", ",;", true);
        behind("la0+0,0", ";", true);
        behind("ta0.0", ";", true);
        behind("k10", DIGITS + ";", true);
        SplitSecrets x = new SplitSecrets();
        check.due("k00", Texts.faultOf(x, "k00"), 2);
        check.due("k007", Texts.faultOf(x, "k007"), 2);
        check.due("ta0.01", Texts.faultOf(x, "ta0.01"), 5);
    }

    private static void endsTooEarly() {
        check.says("if there is none and the text ends too early (also if it is empty), it is the length of the text");
        String whole = "k12;la0+34,56;tb7.89;za;b3";
        SplitSecrets x = new SplitSecrets();
        // Of the beginnings of the text these are texts themselves.
        String[] texts = {"k1", "k12", "k12;la0+3", "k12;la0+34", "k12;la0+34,5", "k12;la0+34,56", "k12;la0+34,56;tb7",
            "k12;la0+34,56;tb7.8", "k12;la0+34,56;tb7.89", "k12;la0+34,56;tb7.89;za", whole};
        for (int length = 0; length <= whole.length(); length++) {
            String beginning = whole.substring(0, length);
            boolean isText = java.util.Arrays.asList(texts).contains(beginning);
            check.due(beginning, Texts.faultOf(x, beginning), isText ? NONE : length);
        }
    }

    private static void emptyTextsFault() {
        check.says("(also if it is empty)");
        SplitSecrets x = new SplitSecrets();
        check.due("a new pad", x.fault(), 0);
        x.put('k');
        x.wipe();
        check.due("a wiped pad", x.fault(), 0);
        check.due("a pad that was carried out", Texts.carriedOut(x, "b1") == 1 ? x.fault() : 99, 0);
        check.due("an empty order", Texts.faultOf(x, ";"), 0);
        check.due("an empty order between two", Texts.faultOf(x, "b1;;b1"), 3);
        check.due("an empty order at the end", Texts.faultOf(x, "b1;"), 3);
    }

    private static void theFirstFaultCounts() {
        check.says("the first character that cannot stand at its place when the text is read from left to right");
        SplitSecrets x = new SplitSecrets();
        check.due("two faults", Texts.faultOf(x, "k1x;y"), 2);
        check.due("a fault, and it ends too early", Texts.faultOf(x, "zc;k"), 1);
        check.due("the fault is the first one", Texts.faultOf(x, "?k1"), 0);
        check.due("it is not a matter of what is there", Texts.faultOf(x, "m9;r9;ta9.999;la9+999,999;k999;b0"), NONE);
        check.due("a good text with more behind it", Texts.faultOf(x, "k1;b2k"), 5);
    }

    private static void textsOf80Characters() {
        check.says("The pad is a text of at most 80 characters, a row of orders");
        SplitSecrets x = new SplitSecrets();
        check.due("full of orders", Texts.faultOf(x, FULL), NONE);
        check.due("a fault at the last character", Texts.faultOf(x, FULL.substring(0, 79) + ";"), 79);
        check.due("full of stores", Texts.faultOf(x, "z" + "a;z".repeat(26) + "a"), NONE);
        check.due("80 that end in an order", Texts.faultOf(x, "k10;" + "k1;".repeat(25) + "k"), 80);
        check.due("80 that end in front of one", Texts.faultOf(x, "k10;k10;" + "k1;".repeat(24)), 80);
        check.due("a number that ends at 80", Texts.faultOf(x, "k1;".repeat(25) + "k1;b9"), NONE);
        String passes = "b1;".repeat(26) + "b9";
        check.due("all are carried out", Texts.carriedOut(x, passes), 27);
        check.due("beats", x.count(0), 35);
        check.due("the longest order at the end", Texts.faultOf(x, "b1;".repeat(23) + "la0+255,256"), NONE);
    }

    // ---- carryOut

    private static int[] orders(String text) {
        SplitSecrets x = Made.filled();
        int carriedOut = Texts.carriedOut(x, text);
        return new int[] {carriedOut, x.count(0), x.count(1)};
    }

    private static void ordersWithTheirGreatestValues() {
        check.says("Carries the orders of the pad out, one after the other");
        // In a filled object the secret 0 has the version 6 and keeps 5, 4 and 3.
        String[] texts = {"k0", "k255", "r0", "r2", "u0", "u2", "m0", "m2", "za", "zb", "la0+0", "lb2+255", "la0+0,0", "la0+255,256",
            "ta0", "tb2", "ta0.6", "ta0.3", "tb2.1", "b1", "b99"};
        for (String text : texts) {
            check.due(text, orders(text)[0], 1);
            check.due(text + ";b1", orders(text + ";b1")[0], 2);
        }
    }

    private static void ordersWithTheirFirstRefusedValues() {
        check.says("up to the first one that returns an error");
        String[] texts = {"k256", "k999", "r3", "r9", "u3", "u9", "m3", "m9", "la3+0", "lb0+256", "la0+0,257", "la0+999,999", "ta3",
            "tb9", "ta0.7", "ta0.2", "ta0.0", "tb2.2", "tb2.0", "ta9.1", "b0", "b100", "b999", "za;k1", "za;r0", "za;u0", "zb;m0"};
        for (String text : texts) {
            int before = text.startsWith("z") ? 1 : 0;
            check.due(text, orders(text)[0], before);
            int[] more = orders("b1;" + text + ";b1;k1");
            check.due("b1;" + text + ";b1;k1", more[0], before + 1);
            check.due("beats behind " + text, more[1], 3);
            check.due("secrets behind " + text, more[2], 3);
        }
    }

    private static void lieWithoutATagsOffset() {
        check.says("with the offset and the tag's offset (0 without)");
        SplitSecrets x = new SplitSecrets();
        x.keep(4);
        Texts.carriedOut(x, "la0+1,2;lb0+3,4");
        check.due("with it", x.of(0, 0, 5), 2);
        check.due("with it", x.of(1, 0, 5), 4);
        Texts.carriedOut(x, "la0+5,6;la0+7;lb0+0,0");
        check.due("the offset", x.of(0, 0, 4), 7);
        check.due("without it, behind an order with it", x.of(0, 0, 5), 0);
        check.due("with 0", x.of(1, 0, 5), 0);
    }

    private static void stealWithoutAVersion() {
        check.says("of a version (that of now without)");
        SplitSecrets x = new SplitSecrets();
        check.due("of no secret", Texts.carriedOut(x, "ta0"), 0);
        check.due("of the version that is now then", Texts.carriedOut(x, "k9;ta0.1;r0;ta0;r0;tb0"), 6);
        check.due("of the version 1, and 2", x.old(0, 1, 3), 1);
        check.due("of the version 2", x.old(0, 0, 3), 1);
        check.due("of three versions", x.atRisk(0), 3);
        check.due("with a version behind one without", Texts.carriedOut(x, "ta0;tb0.1"), 2);
        check.due("both of the version 1", x.old(0, 1, 3), 3);
        check.due("both of the version now", x.atRisk(0), 1);
    }

    private static void carryOutUpToTheFirstError() {
        check.says("Returns how many orders were carried out");
        SplitSecrets x = new SplitSecrets();
        check.due("the first one fails", Texts.carriedOut(x, "m0;k1"), 0);
        check.due("the second one fails", Texts.carriedOut(x, "k1;m1;k2"), 1);
        check.due("the last one fails", Texts.carriedOut(x, "k2;k3;m9"), 2);
        check.due("none fails", Texts.carriedOut(x, "m0;m1;m2"), 3);
        check.due("eight are there", Texts.carriedOut(x, "k4;k5;k6;k7;k8;k9;b1"), 5);
        check.due("secrets", x.count(1), 8);
        check.due("beats", x.count(0), 0);
        check.due("up to the last beat", Texts.carriedOut(Made.withBeats(9900), "b98;b1;b1"), 2);
        check.due("up to the last version", Texts.carriedOut(Made.withVersion(997), "r0;r0;r0;r0"), 2);
    }

    private static void carryOutIsOneChange() {
        check.says("This is a change (one, with all of them; also if none is carried out).");
        SplitSecrets x = new SplitSecrets();
        check.due("many orders", Texts.carriedOut(x, "k1;k2;k3;k4;k5;k6;k7;k8;b9"), 9);
        check.due("changes", x.count(15), 1);
        check.due("undo", x.undo(), 0);
        check.due("secrets", x.count(1), 0);
        check.due("beats", x.count(0), 0);
        check.due("x", x.count(10), 1);
    }

    private static void carryOutAlsoIfNoneIsCarriedOut() {
        check.says("also if none is carried out");
        SplitSecrets x = new SplitSecrets();
        x.keep(1);
        check.due("none", Texts.carriedOut(x, "b0;k1"), 0);
        check.due("changes", x.count(15), 2);
        check.due("undo", x.undo(), 1);
        check.due("secrets", x.count(1), 1);
        for (int changes = 2; changes <= 8; changes++) {
            Texts.carriedOut(x, "b0");
            check.due("changes", x.count(15), Math.min(6, changes));
        }
    }

    private static void carryOutEmptiesThePad() {
        check.says("and empties the pad");
        SplitSecrets x = new SplitSecrets();
        Texts.carriedOut(x, "b1;b2");
        check.due("all carried out", x.count(14), 0);
        check.due("its fault", x.fault(), 0);
        Texts.carriedOut(x, "b0;b1");
        check.due("none carried out", x.count(14), 0);
        Texts.carriedOut(x, FULL);
        check.due("a full one", x.count(14), 0);
        check.due("nothing to carry out", x.carryOut(), BAD_TEXT);
        x.undo();
        check.due("undo leaves it empty", x.count(14), 0);
        check.due("beats", x.count(0), 3);
    }

    private static void carryOutBadText() {
        check.says("BAD_TEXT if the pad has a fault (then it stays).");
        String[] texts = {"", "k", "k1;", "k1;x", "x;k1", "k1;b1000", "k01", FULL.substring(0, 79) + "x"};
        for (String text : texts) {
            SplitSecrets x = Made.withPad(text);
            check.due(text, x.carryOut(), BAD_TEXT);
            check.due("it stays", x.count(14), text.length());
            check.due("again", x.carryOut(), BAD_TEXT);
            check.due("no change", x.count(15), 0);
            check.due("none is carried out", x.count(1), 0);
        }
        SplitSecrets x = Made.withPad("k1;k2;");
        check.due("too early", x.carryOut(), BAD_TEXT);
        x.put(Texts.number("b3"));
        check.due("the rest behind it", x.carryOut(), 3);
    }

    private static void answersOfNoErrorGoOn() {
        check.says("up to the first one that returns an error");
        SplitSecrets x = new SplitSecrets();
        check.due("answers that are 0, and caught lies", Texts.carriedOut(x, "k0;m0;u0;b1;za;za;la0+1;m0;lb0+1;m0;b2"), 11);
        check.due("caught", x.count(8), 2);
        check.due("beats", x.count(0), 3);
        check.due("set is no order", Texts.faultOf(x, "s0"), 0);
        check.due("undo is no order", Texts.faultOf(x, "undo"), 1);
    }
}
