/** Promises 26 to 28: undo, save, restore. */
public final class UndoTest {
    private static final int BAD_VALUE = SplitSecrets.BAD_VALUE, NOT_POSSIBLE = SplitSecrets.NOT_POSSIBLE;
    private static final int BAD_TEXT = SplitSecrets.BAD_TEXT, NONE = SplitSecrets.NONE;
    private static final Check check = new Check("UndoTest");

    public static void main(String[] args) {
        undoOneByOne();
        undoDropsTheOldest();
        undoBringsEverythingBack();
        undoLeavesPadAndSlots();
        errorsRecordNothing();
        changesWithoutADifferenceAreRecorded();
        save();
        restore();
        restoreIsAChange();
        restoreBringsEverythingBack();
        check.end();
    }

    private static void undoOneByOne() {
        SplitSecrets x = new SplitSecrets();
        check.due("undo of nothing", x.undo(), NOT_POSSIBLE);
        for (int i = 0; i < 4; i++) {
            x.keep(i);
        }
        for (int left = 3; left >= 0; left--) {
            check.due("undo", x.undo(), left);
            check.due("secrets", x.count(1), left);
            check.due("can be undone", x.count(15), left);
        }
        check.due("undo of nothing", x.undo(), NOT_POSSIBLE);
    }

    private static void undoDropsTheOldest() {
        SplitSecrets x = new SplitSecrets();
        for (int beats = 1; beats <= 20; beats++) {
            x.pass(1);
            check.due("can be undone", x.count(15), Math.min(6, beats));
            x.pass(0);
        }
        for (int left = 5; left >= 0; left--) {
            check.due("undo", x.undo(), left);
            check.due("beats", x.count(0), 14 + left);
        }
        check.due("undo of nothing", x.undo(), NOT_POSSIBLE);
        check.due("beats", x.count(0), 14);
    }

    /** Something of everything there is. */
    private static SplitSecrets filled() {
        SplitSecrets x = new SplitSecrets();
        x.keep(10);
        x.keep(20);
        x.set(SplitSecrets.OLD, 3);
        for (int i = 0; i < 4; i++) {
            x.refresh(0);
        }
        x.merge(0);
        x.lie(0, 0, 3, 4);
        x.merge(0);
        x.steal(1, 0, 3);
        x.steal(0, 0, 3);
        x.steal(0, 0, 5);
        x.set(SplitSecrets.OPEN, 9);
        x.merge(1);
        x.lie(0, 1, 3, x.passing(0, 1, 3));
        return x;
    }

    private static SplitSecrets savedAndLater() {
        SplitSecrets x = filled();
        x.save(0);
        x.pass(1);
        return x;
    }

    /** It takes 146 calls of the 512 of an object. */
    private static int[] everything(SplitSecrets x) {
        int[] all = new int[300];
        int size = 0;
        for (int what = 0; what < 14; what++) {
            all[size++] = x.count(what);
        }
        for (int secret = 0; secret < 3; secret++) {
            for (int what = 0; what < 8; what++) {
                all[size++] = x.ofSecret(secret, what);
                all[size++] = x.of(0, secret, what);
                all[size++] = x.of(1, secret, what);
            }
            for (int rank = 0; rank < 5; rank++) {
                for (int what = 0; what < 4; what++) {
                    all[size++] = x.old(secret, rank, what);
                }
            }
        }
        return all;
    }

    private static void due(String what, int[] got, int[] want) {
        check.holds(what, java.util.Arrays.equals(got, want));
    }

    /** Number i of the changes; each one makes something different in filled(). */
    private static int change(SplitSecrets x, int i) {
        switch (i) {
            case 0: return x.set(SplitSecrets.OPEN, 7);
            case 1: return x.seed(77);
            case 2: return x.keep(30);
            case 3: return x.refresh(0);
            case 4: return x.burn(0);
            case 5: return x.sleep(1);
            case 6: return x.lie(1, 0, 200, 100);
            case 7: return x.merge(0);
            case 8: return x.merge(1);
            case 9: return x.steal(1, 1, 1);
            case 10: return x.pass(3);
            case 11: return x.sleep(0);
            case 12: return Texts.carriedOut(x, "ta1;tb1");
            case 13: return Texts.carriedOut(x, "lb1+5;u0;r1;b2;k99;ta2;r9;b1");
            default: return x.restore(0);
        }
    }

    private static void undoBringsEverythingBack() {
        for (int i = 0; i <= 14; i++) {
            int[] before = everything(savedAndLater());
            SplitSecrets x = savedAndLater();
            check.due("a text with a fault", Texts.carriedOut(x, "b1;set"), BAD_TEXT);
            due("a text with a fault", everything(x), before);
            check.holds("change " + i + " is one", change(x, i) >= 0);
            check.holds("change " + i + " makes a difference", !java.util.Arrays.equals(everything(x), before));
            x = savedAndLater();
            change(x, i);
            check.due("undo", x.undo(), 5);
            due("undo of change " + i, everything(x), before);
        }
    }

    private static void undoLeavesPadAndSlots() {
        SplitSecrets x = new SplitSecrets();
        x.keep(1);
        x.save(1);
        x.pass(1);
        Texts.put(x, "k5;");
        x.undo();
        check.due("the pad", x.count(14), 3);
        x.undo();
        check.due("secrets", x.count(1), 0);
        check.due("the slot", x.restore(1), 1);
        Texts.put(x, "k6");
        check.due("the pad", x.fault(), NONE);
        check.due("carryOut", x.carryOut(), 2);
        x.undo();
        check.due("the pad stays empty", x.count(14), 0);
    }

    private static void errorsRecordNothing() {
        SplitSecrets x = new SplitSecrets();
        for (int i = 0; i < 6; i++) {
            x.keep(i);
        }
        x.set(9, 9);
        x.seed(-1);
        x.keep(-1);
        x.refresh(9);
        x.burn(9);
        x.sleep(9);
        x.lie(9, 9, 9, 9);
        x.merge(9);
        x.steal(9, 9, 9);
        x.pass(0);
        x.carryOut();
        x.restore(0);
        x.restore(9);
        check.due("can be undone", x.count(15), 6);
        for (int left = 5; left >= 0; left--) {
            x.undo();
            check.due("secrets", x.count(1), left);
        }
    }

    private static void changesWithoutADifferenceAreRecorded() {
        SplitSecrets x = new SplitSecrets();
        x.keep(1);
        x.set(SplitSecrets.OPEN, 1);
        x.seed(x.count(10) % 10000);
        x.burn(0);
        x.lie(0, 0, 0, 0);
        check.due("can be undone", x.count(15), 5);
        check.due("undo", x.undo(), 4);
        x.of(0, 0, 0);
        x.ofSecret(0, 0);
        x.old(0, 0, 0);
        x.otherwise(0, 0, 0);
        x.passing(0, 0, 0);
        x.passes(0, 0, 0);
        x.needed(0);
        x.atRisk(0);
        x.ifMerged(0);
        x.put('k');
        x.fault();
        x.wipe();
        x.save(0);
        check.due("no change", x.count(15), 4);
    }

    private static void save() {
        SplitSecrets x = new SplitSecrets();
        check.due("save(-1)", x.save(-1), BAD_VALUE);
        check.due("save(2)", x.save(2), BAD_VALUE);
        check.due("save of nothing", x.save(0), 0);
        x.keep(1);
        x.keep(2);
        check.due("save(1)", x.save(1), 2);
        x.keep(3);
        check.due("save(0) anew", x.save(0), 3);
        check.due("restore(1)", x.restore(1), 2);
        check.due("restore(0)", x.restore(0), 3);
    }

    private static void restore() {
        SplitSecrets x = new SplitSecrets();
        check.due("restore(-1)", x.restore(-1), BAD_VALUE);
        check.due("restore(2)", x.restore(2), BAD_VALUE);
        check.due("restore(0)", x.restore(0), NOT_POSSIBLE);
        x.keep(9);
        x.save(0);
        check.due("restore(1)", x.restore(1), NOT_POSSIBLE);
        for (int i = 0; i < 3; i++) {
            x.refresh(0);
            x.keep(i);
            check.due("the slot keeps it", x.restore(0), 1);
            check.due("version", x.ofSecret(0, 0), 1);
        }
    }

    private static void restoreIsAChange() {
        SplitSecrets x = new SplitSecrets();
        x.keep(9);
        x.save(0);
        x.pass(5);
        Texts.put(x, "abc");
        x.restore(0);
        check.due("the history goes on", x.count(15), 3);
        check.due("the pad stays", x.count(14), 3);
        check.due("beats", x.count(0), 0);
        check.due("undo", x.undo(), 2);
        check.due("beats", x.count(0), 5);
        check.due("undo", x.undo(), 1);
        check.due("undo", x.undo(), 0);
        check.due("secrets", x.count(1), 0);
        check.due("the slot keeps it", x.restore(0), 1);
    }

    private static void restoreBringsEverythingBack() {
        SplitSecrets x = filled();
        x.sleep(1);
        int[] before = everything(x);
        x.save(1);
        x.sleep(1);
        for (int i = 0; i <= 13; i++) {
            change(x, i);
        }
        check.holds("much is different", !java.util.Arrays.equals(everything(x), before));
        x.restore(1);
        due("restored", everything(x), before);
        x.sleep(1);
        check.due("goes on as before", x.refresh(0), 6);
    }
}
