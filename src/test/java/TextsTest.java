/** Promises 22 to 25: put, wipe, fault, carryOut. */
public final class TextsTest {
    private static final int BAD_VALUE = SplitSecrets.BAD_VALUE, BAD_TEXT = SplitSecrets.BAD_TEXT;
    private static final int TOO_MANY = SplitSecrets.TOO_MANY, NONE = SplitSecrets.NONE;
    private static final Check check = new Check("TextsTest");

    public static void main(String[] args) {
        put();
        putRefuses();
        putUpToTheEndOfThePad();
        wipe();
        fault();
        faultInALongText();
        carryOut();
        carryOutEachOrder();
        carryOutStopsAtAnError();
        carryOutRefusesAFault();
        check.end();
    }

    private static void put() {
        SplitSecrets x = new SplitSecrets();
        check.due("put one", x.put('k'), 1);
        check.due("put eight", x.put(Texts.number("17;k18;k")), 9);
        check.due("put two", x.put(Texts.number("19")), 11);
        check.due("fault", x.fault(), NONE);
        check.due("in this order", x.carryOut(), 3);
        for (int secret = 0; secret < 3; secret++) {
            check.due("kept", x.merge(secret), 17 + secret);
        }
        check.due("the least and the greatest code", x.put(Texts.number("!~")), 2);
        check.due("no change", x.count(15), 4);
    }

    private static void putRefuses() {
        SplitSecrets x = new SplitSecrets();
        long[] bad = {
            0, -1, 32, 127, 128, 255, 0x6B00L, 0x6B006BL, 0x0100000000000031L, 0x6B20L, 0x206BL, 0x7F31L,
            0x8031313131313131L, 0x3131313131313180L, Long.MIN_VALUE, Long.MAX_VALUE, 0x10000006BL,
        };
        for (long characters : bad) {
            check.due("put(" + characters + ")", x.put(characters), BAD_VALUE);
        }
        check.due("the pad", x.count(14), 0);
        check.due("eight of the greatest", x.put(0x7E7E7E7E7E7E7E7EL), 8);
    }

    private static void putUpToTheEndOfThePad() {
        SplitSecrets x = new SplitSecrets();
        for (int length = 8; length <= 72; length += 8) {
            check.due("put", x.put(Texts.number("k1;k1;k1")), length);
        }
        check.due("put", x.put(Texts.number("abcde")), 77);
        check.due("above 80", x.put(Texts.number("abcd")), TOO_MANY);
        check.due("above 80, and bad", x.put(Texts.number("abc d")), BAD_VALUE);
        check.due("the pad", x.count(14), 77);
        check.due("up to 80", x.put(Texts.number("abc")), 80);
        check.due("one more", x.put('a'), TOO_MANY);
        check.due("none more", x.put(0), BAD_VALUE);
        check.due("the pad", x.count(14), 80);
    }

    private static void wipe() {
        SplitSecrets x = new SplitSecrets();
        check.due("wipe of an empty pad", x.wipe(), 0);
        Texts.put(x, "k1;k2");
        check.due("wipe", x.wipe(), 5);
        check.due("the pad", x.count(14), 0);
        check.due("fault", x.fault(), 0);
        check.due("no change", x.count(15), 0);
        Texts.put(x, "k9");
        check.due("nothing is left", x.carryOut(), 1);
        check.due("secrets", x.count(1), 1);
    }

    private static void fault() {
        SplitSecrets x = new SplitSecrets();
        String[] right = {
            "k0", "k9", "k10", "k999", "r0", "u9", "m5", "za", "zb", "la0+0", "lb9+999", "la0+0,0", "lb9+1,999",
            "ta0", "tb9", "ta0.0", "tb9.999", "b0", "b1", "b999", "k1;r0;u0;m0;za;la0+5,6;tb0.1;b3", "za;za",
        };
        for (String text : right) {
            check.due(text, Texts.faultOf(x, text), NONE);
        }
        String[] wrong = {
            "", "k", "r", "u", "m", "z", "l", "t", "b", "la", "la0", "la0+", "la0+1,", "ta", "ta0.", "k1;", "za;", "ta0;",
        };
        for (String text : wrong) {
            check.due(text + " ends too early", Texts.faultOf(x, text), text.length());
        }
        // The last character of each is the fault.
        String[] faults = {
            "x", ";", "K", "0", "ka", "k-", "k01", "k00", "k1000", "k9999", "k1x", "k1,", "k1;;", "k1;x", "ra", "r12", "r1.", "u00",
            "m1+", "mm", "zc", "z0", "zA", "zaa", "za0", "l0", "lc", "lab", "la12", "la0,", "la0;", "la0+x", "la0+00", "la0+1000",
            "la0+1+", "la0+1,x", "la0+1,01", "la0+1,1000", "la0+1,2,", "la0+1.", "t0", "tc", "tax", "ta00", "ta0+", "ta0,", "ta0.x",
            "ta0.01", "ta0.1000", "ta0.1.", "ta0.1,", "bx", "b01", "b1000", "b1b",
        };
        for (String text : faults) {
            check.due(text, Texts.faultOf(x, text), text.length() - 1);
            check.due(text + " and more", Texts.faultOf(x, text + ";k1"), text.length() - 1);
        }
        check.due("no change", x.count(15), 0);
    }

    private static void faultInALongText() {
        SplitSecrets x = new SplitSecrets();
        String orders = "r0;".repeat(26) + "r0";
        check.due("80 characters", orders.length(), 80);
        check.due("27 orders", Texts.faultOf(x, orders), NONE);
        check.due("a fault at the end", Texts.faultOf(x, orders.substring(0, 79) + "x"), 79);
        check.due("a number at the end", Texts.faultOf(x, "r0;".repeat(25) + "la0+1"), NONE);
        check.due("80 that end too early", Texts.faultOf(x, "k22;r0;".repeat(2) + "r0;".repeat(20) + "la0+1,"), 80);
    }

    private static void carryOut() {
        SplitSecrets x = new SplitSecrets();
        check.due("carryOut", Texts.carriedOut(x, "k7;k8;r0;r0;b5"), 5);
        check.due("the pad", x.count(14), 0);
        check.due("secrets", x.count(1), 2);
        check.due("version", x.ofSecret(0, 0), 3);
        check.due("beats", x.count(0), 5);
        check.due("one change", x.count(15), 1);
        check.due("undo", x.undo(), 0);
        check.due("secrets", x.count(1), 0);
        check.due("beats", x.count(0), 0);
        check.due("the pad stays empty", x.count(14), 0);
        check.due("27 orders", Texts.carriedOut(x, "b1;".repeat(26) + "b1"), 27);
        check.due("beats", x.count(0), 27);
    }

    private static void carryOutEachOrder() {
        SplitSecrets x = new SplitSecrets();
        Texts.carriedOut(x, "k255;k0");
        check.due("k", x.count(1), 2);
        Texts.carriedOut(x, "r1;r1");
        check.due("r", x.ofSecret(1, 0), 3);
        Texts.carriedOut(x, "ta1;tb1.2");
        check.due("t of the version now", x.atRisk(1), 2);
        check.due("t of an old version", x.old(1, 0, 3), 2);
        Texts.carriedOut(x, "u1");
        check.due("u", x.count(7), 2);
        Texts.carriedOut(x, "m0");
        check.due("m", x.ofSecret(0, 2), 255);
        Texts.carriedOut(x, "za");
        check.due("za", x.count(4), 1);
        Texts.carriedOut(x, "zb;za");
        check.due("zb", x.count(5), 1);
        check.due("za", x.count(4), 0);
        Texts.carriedOut(x, "lb1+255,256");
        check.due("l, the offset", x.of(1, 1, 4), 255);
        check.due("l, the tag's offset", x.of(1, 1, 5), 256);
        Texts.carriedOut(x, "lb1+4");
        check.due("l, the offset", x.of(1, 1, 4), 4);
        check.due("l, no tag's offset", x.of(1, 1, 5), 0);
        Texts.carriedOut(x, "b99");
        check.due("b", x.count(0), 99);
    }

    private static void carryOutStopsAtAnError() {
        SplitSecrets x = new SplitSecrets();
        check.due("the first one fails", Texts.carriedOut(x, "k256;k1"), 0);
        check.due("secrets", x.count(1), 0);
        check.due("is a change", x.count(15), 1);
        check.due("the pad", x.count(14), 0);
        check.due("the third one fails", Texts.carriedOut(x, "k1;k2;r2;k3"), 2);
        check.due("secrets", x.count(1), 2);
        check.due("a caught lie is no error", Texts.carriedOut(x, "la0+1;m0;b1"), 3);
        String[] errors = {"r9", "u9", "m9", "la9+1", "la0+256", "la0+1,257", "ta9", "ta0.2", "ta0.0", "tb9.1", "b0", "b100", "k999"};
        for (String order : errors) {
            check.due(order, Texts.carriedOut(x, "b1;" + order + ";b1"), 1);
        }
        check.due("beats", x.count(0), 1 + errors.length);
        check.due("orders asleep", Texts.carriedOut(x, "zb;ta0;la0+2;b1;r0;b1"), 4);
        check.due("offset", x.of(0, 0, 4), 2);
    }

    private static void carryOutRefusesAFault() {
        SplitSecrets x = new SplitSecrets();
        check.due("an empty pad", x.carryOut(), BAD_TEXT);
        Texts.put(x, "k1;k2;");
        check.due("a fault", x.carryOut(), BAD_TEXT);
        check.due("the pad stays", x.count(14), 6);
        check.due("secrets", x.count(1), 0);
        check.due("no change", x.count(15), 0);
        Texts.put(x, "k3");
        check.due("the whole text", x.carryOut(), 3);
    }
}
