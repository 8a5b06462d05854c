import java.util.function.Consumer;

/** The boundary cases that promises 26 to 28 name, a test for each sentence. */
public final class UndoBoundsTest {
    private static final int BAD_VALUE = SplitSecrets.BAD_VALUE, NOT_POSSIBLE = SplitSecrets.NOT_POSSIBLE;
    private static final int NONE = SplitSecrets.NONE, BAD_TEXT = SplitSecrets.BAD_TEXT;
    private static final int OPEN = SplitSecrets.OPEN, EACH = SplitSecrets.EACH, OLD = SplitSecrets.OLD;
    private static final Check check = new Check("UndoBoundsTest");

    public static void main(String[] args) {
        undoneChangesLeft();
        undoNotPossibleIfThereIsNone();
        atMost6States();
        theOldestOneIsDropped();
        eachChangeIsUndone();
        undoneItIsOpenAsBefore();
        changesWithoutADifference();
        errorsRecordNothing();
        whatIsNoChangeRecordsNothing();
        undoLeavesThePad();
        undoLeavesTheSlots();
        undoLeavesTheHistory();
        anOrderRecordsNothing();
        saveSlotIs0Or1();
        saveReturnsTheSecrets();
        saveOverwrites();
        saveLeavesOutPadHistoryAndSlots();
        restoreSlotIs0Or1();
        restoreOfNothing();
        restoreOfAnEmptyState();
        restoreSlotKeepsIt();
        restoreIsAChange();
        restoreBringsEverything();
        check.end();
    }

    // ---- undo

    private static void undoneChangesLeft() {
        check.says("Returns how many changes can be undone then");
        for (int changes = 1; changes <= 8; changes++) {
            SplitSecrets x = Made.withBeats(0);
            for (int i = 0; i < changes; i++) {
                x.pass(1);
            }
            int kept = Math.min(6, changes);
            for (int left = kept - 1; left >= 0; left--) {
                check.due("undo", x.undo(), left);
                check.due("beats", x.count(0), changes - kept + left);
                check.due("changes", x.count(15), left);
            }
            check.due("none", x.undo(), NOT_POSSIBLE);
        }
    }

    private static void undoNotPossibleIfThereIsNone() {
        check.says("NOT_POSSIBLE if there is none");
        SplitSecrets x = new SplitSecrets();
        check.due("a new object", x.undo(), NOT_POSSIBLE);
        x.sleep(0);
        check.due("one", x.undo(), 0);
        check.due("none any more", x.undo(), NOT_POSSIBLE);
        check.due("awake", x.count(4), 0);
        x.sleep(1);
        check.due("changes", x.count(15), 1);
        check.due("one again", x.undo(), 0);
        check.due("none any more", x.undo(), NOT_POSSIBLE);
    }

    private static void atMost6States() {
        check.says("A history of at most 6 states is kept");
        SplitSecrets x = new SplitSecrets();
        for (int changes = 1; changes <= 20; changes++) {
            x.pass(1);
            check.due("changes", x.count(15), Math.min(6, changes));
        }
    }

    private static void theOldestOneIsDropped() {
        check.says("when one more is recorded, the oldest one is dropped");
        for (int changes = 5; changes <= 15; changes++) {
            for (int undone = 0; undone <= 6; undone++) {
                SplitSecrets x = new SplitSecrets();
                for (int i = 0; i < changes; i++) {
                    x.pass(1);
                }
                int some = Math.min(undone, x.count(15));
                for (int i = 0; i < some; i++) {
                    x.undo();
                }
                // Behind undo the ring of states has to go on where it was left.
                x.keep(1);
                x.keep(2);
                int oldest = Math.max(0, changes - 6);
                int kept = Math.min(6, changes - some - oldest + 2);
                check.due("changes", x.count(15), kept);
                for (int left = kept - 1; left >= 0; left--) {
                    check.due("undo", x.undo(), left);
                    int steps = kept - left;
                    check.due("secrets", x.count(1), Math.max(0, 2 - steps));
                    check.due("beats", x.count(0), changes - some - Math.max(0, steps - 2));
                }
                check.due("none", x.undo(), NOT_POSSIBLE);
            }
        }
    }

    /** Makes the change in an object with something of everything, and takes it back. */
    private static void undone(String name, Consumer<SplitSecrets> change) {
        SplitSecrets x = Made.filled();
        String before = Look.at(x);
        change.accept(x);
        check.due(name + ", changes", x.count(15), 6);
        check.due(name + ", undone", x.undo(), 5);
        // The history is one shorter than before the change, as the oldest state was dropped.
        String after = Look.at(x).replace("count 15 is 5", "count 15 is 6");
        check.due(name + ", undone, the first difference", Look.difference(after, before), "no difference");
    }

    private static void eachChangeIsUndone() {
        check.says("Undoes the latest change: everything except the pad, the slots and the history is as it was before it.");
        undone("set OPEN", x -> x.set(OPEN, 3));
        undone("set EACH", x -> x.set(EACH, 3));
        undone("set OLD", x -> x.set(OLD, 0));
        undone("seed", x -> x.seed(4));
        undone("keep", x -> x.keep(4));
        undone("refresh that burns", x -> x.refresh(0));
        undone("refresh that burns none", x -> x.refresh(1));
        undone("burn", x -> x.burn(0));
        undone("sleep", x -> x.sleep(0));
        undone("sleep", x -> x.sleep(1));
        undone("lie", x -> x.lie(1, 2, 3, 4));
        undone("lie no more", x -> x.lie(0, 0, 0, 0));
        undone("merge, caught", x -> x.merge(0));
        undone("merge, passed", x -> x.merge(1));
        undone("merge", x -> x.merge(2));
        undone("steal", x -> x.steal(1, 0, 6));
        undone("steal", x -> x.steal(0, 0, 3));
        undone("steal again", x -> x.steal(0, 0, 6));
        undone("pass", x -> x.pass(99));
        undone("restore", x -> x.restore(0));
    }

    private static void undoneItIsOpenAsBefore() {
        check.says("everything except the pad, the slots and the history is as it was before it");
        SplitSecrets x = new SplitSecrets();
        x.keep(30);
        x.set(OPEN, 5);
        x.merge(0);
        x.save(0);
        x.set(OPEN, 4);
        x.lie(0, 0, 1, x.passing(0, 0, 1));
        x.merge(0);
        check.due("open as", x.ofSecret(0, 2), 31);
        check.due("open for", x.ofSecret(0, 3), 4);
        x.undo();
        check.due("open as, undone", x.ofSecret(0, 2), 30);
        check.due("open for, undone", x.ofSecret(0, 3), 5);
        x.merge(0);
        x.restore(0);
        check.due("open as, restored", x.ofSecret(0, 2), 30);
        x.undo();
        check.due("open as, undone", x.ofSecret(0, 2), 31);
    }

    private static void changesWithoutADifference() {
        check.says("(also if nothing is different then)");
        SplitSecrets x = new SplitSecrets();
        x.keep(1);
        x.steal(0, 0, 1);
        x.undo();
        x.undo();
        x.seed(5);
        x.seed(5);
        check.due("the same seed", x.count(15), 2);
        x.set(OLD, 2);
        check.due("the same setting", x.count(15), 3);
        x.keep(1);
        x.burn(0);
        check.due("nothing to burn", x.count(15), 5);
        x.undo();
        x.lie(1, 0, 0, 0);
        check.due("the same lie", x.count(15), 5);
        x.undo();
        x.steal(0, 0, 1);
        x.undo();
        Texts.carriedOut(x, "m7");
        check.due("no order", x.count(15), 5);
        x.undo();
        x.save(0);
        x.restore(0);
        check.due("the same state", x.count(15), 5);
        x.undo();
        x.steal(1, 0, 1);
        x.steal(1, 0, 1);
        check.due("the same part", x.count(15), 6);
        x.undo();
        check.due("it is still taken", x.ofSecret(0, 6), 1);
        x.undo();
        check.due("it is not taken", x.ofSecret(0, 6), 0);
    }

    private static void errorsRecordNothing() {
        check.says("each method that is a change, and returns no error, records the state before it");
        SplitSecrets x = Made.withEightSecrets();
        for (int i = 0; i < 5; i++) {
            x.undo();
        }
        check.due("changes", x.count(15), 1);
        x.sleep(0);
        x.set(OPEN, 21);
        x.seed(10000);
        x.keep(3);
        x.keep(256);
        x.refresh(0);
        x.burn(0);
        x.sleep(2);
        x.lie(0, 0, 256, 0);
        x.merge(0);
        x.steal(0, 0, 2);
        x.pass(0);
        check.due("carryOut", x.carryOut(), BAD_TEXT);
        x.restore(0);
        x.restore(2);
        check.due("changes", x.count(15), 2);
        check.due("undo", x.undo(), 1);
        check.due("secrets", x.count(1), 3);
        check.due("undo", x.undo(), 0);
        check.due("undo", x.undo(), NOT_POSSIBLE);
        check.due("secrets", x.count(1), 2);
    }

    private static void whatIsNoChangeRecordsNothing() {
        check.says("each method that is a change");
        SplitSecrets x = new SplitSecrets();
        x.keep(1);
        Look.at(x);
        x.otherwise(0, 0, 0);
        x.passing(0, 0, 1);
        x.passes(0, 0, 1);
        x.put('k');
        x.fault();
        x.wipe();
        x.save(0);
        x.save(1);
        check.due("changes", x.count(15), 1);
        check.due("undo", x.undo(), 0);
        check.due("undo", x.undo(), NOT_POSSIBLE);
    }

    private static void undoLeavesThePad() {
        check.says("everything except the pad");
        SplitSecrets x = new SplitSecrets();
        Texts.put(x, "k1;");
        x.keep(9);
        Texts.put(x, "k2");
        x.undo();
        check.due("the pad", x.count(14), 5);
        check.due("carried out", x.carryOut(), 2);
        x.undo();
        check.due("the pad stays empty", x.count(14), 0);
        Texts.put(x, "b5");
        x.keep(9);
        x.undo();
        check.due("its fault", x.fault(), NONE);
        check.due("the text", x.carryOut() == 1 ? x.count(0) : 99, 5);
    }

    private static void undoLeavesTheSlots() {
        check.says("everything except the pad, the slots");
        SplitSecrets x = new SplitSecrets();
        x.keep(7);
        x.save(0);
        x.undo();
        check.due("secrets", x.count(1), 0);
        check.due("restore(0)", x.restore(0), 1);
        check.due("the secret", x.merge(0), 7);
        x.keep(8);
        x.save(1);
        for (int left = 3; left > 0; left--) {
            x.undo();
        }
        check.due("restore(1)", x.restore(1), 2);
        check.due("restore(0)", x.restore(0), 1);
    }

    private static void undoLeavesTheHistory() {
        check.says("everything except the pad, the slots and the history is as it was before it");
        SplitSecrets x = new SplitSecrets();
        x.pass(1);
        x.pass(1);
        x.pass(1);
        check.due("undo", x.undo(), 2);
        check.due("it is not recorded itself", x.count(15), 2);
        check.due("undo", x.undo(), 1);
        check.due("beats", x.count(0), 1);
        x.pass(5);
        check.due("changes", x.count(15), 2);
        x.undo();
        check.due("what was undone does not come again", x.count(0), 1);
    }

    private static void anOrderRecordsNothing() {
        check.says("An order of a text records nothing by itself.");
        SplitSecrets x = new SplitSecrets();
        x.pass(1);
        Texts.carriedOut(x, "b1;b1;b1;b1;b1;b1;b1;b1");
        check.due("changes", x.count(15), 2);
        check.due("undo", x.undo(), 1);
        check.due("beats", x.count(0), 1);
        Texts.carriedOut(x, "b1;b0;b1");
        check.due("changes", x.count(15), 2);
        check.due("beats", x.count(0), 2);
        check.due("undo", x.undo(), 1);
        check.due("beats", x.count(0), 1);
        check.due("undo", x.undo(), 0);
    }

    // ---- save

    private static void saveSlotIs0Or1() {
        check.says("slot: 0 or 1; BAD_VALUE if there is no such slot");
        SplitSecrets x = new SplitSecrets();
        x.keep(1);
        check.due("save(-1)", x.save(-1), BAD_VALUE);
        check.due("save(0)", x.save(0), 1);
        check.due("save(1)", x.save(1), 1);
        check.due("save(2)", x.save(2), BAD_VALUE);
        check.due("save(MIN)", x.save(Integer.MIN_VALUE), BAD_VALUE);
        check.due("save(MAX)", x.save(Integer.MAX_VALUE), BAD_VALUE);
    }

    private static void saveReturnsTheSecrets() {
        check.says("Returns how many secrets there are");
        SplitSecrets x = new SplitSecrets();
        for (int secrets = 0; secrets <= 8; secrets++) {
            check.due("save", x.save(secrets % 2), secrets);
            x.keep(secrets);
        }
    }

    private static void saveOverwrites() {
        check.says("and overwrites what was saved there");
        SplitSecrets x = new SplitSecrets();
        x.keep(1);
        x.save(0);
        x.save(1);
        x.keep(2);
        x.save(0);
        x.keep(3);
        check.due("the slot 0", x.restore(0), 2);
        check.due("the slot 1", x.restore(1), 1);
        x.save(0);
        check.due("the slot 0, saved anew", x.restore(0), 1);
    }

    private static void saveLeavesOutPadHistoryAndSlots() {
        check.says("Saves everything except the pad, the history and the slots in a slot");
        SplitSecrets x = new SplitSecrets();
        Texts.put(x, "b1;");
        x.keep(1);
        x.keep(2);
        x.save(0);
        x.undo();
        x.wipe();
        Texts.put(x, "b7");
        x.save(1);
        check.due("restore(0)", x.restore(0), 2);
        check.due("the pad is not restored", x.count(14), 2);
        check.due("the history is not restored", x.count(15), 2);
        check.due("the slot 1 is not restored", x.restore(1), 1);
        check.due("the text", x.carryOut() == 1 ? x.count(0) : 99, 7);
    }

    // ---- restore

    private static void restoreSlotIs0Or1() {
        check.says("slot: 0 or 1; BAD_VALUE if there is no such slot");
        SplitSecrets x = new SplitSecrets();
        x.save(0);
        x.keep(1);
        x.save(1);
        check.due("restore(-1)", x.restore(-1), BAD_VALUE);
        check.due("restore(0)", x.restore(0), 0);
        check.due("restore(1)", x.restore(1), 1);
        check.due("restore(2)", x.restore(2), BAD_VALUE);
        check.due("restore(MIN)", x.restore(Integer.MIN_VALUE), BAD_VALUE);
        check.due("restore(MAX)", x.restore(Integer.MAX_VALUE), BAD_VALUE);
    }

    private static void restoreOfNothing() {
        check.says("NOT_POSSIBLE if nothing was saved in it");
        SplitSecrets x = new SplitSecrets();
        check.due("restore(0)", x.restore(0), NOT_POSSIBLE);
        check.due("restore(1)", x.restore(1), NOT_POSSIBLE);
        x.save(1);
        check.due("restore(0)", x.restore(0), NOT_POSSIBLE);
        check.due("restore(1)", x.restore(1), 0);
        x.save(0);
        check.due("restore(0)", x.restore(0), 0);
    }

    private static void restoreOfAnEmptyState() {
        check.says("Restores what was saved last in a slot");
        SplitSecrets x = new SplitSecrets();
        String empty = Look.at(x);
        x.save(0);
        for (int secret = 0; secret < 8; secret++) {
            x.keep(secret);
            x.lie(0, secret, 1, 1);
            x.merge(secret);
        }
        x.pass(9);
        x.set(EACH, 9);
        x.sleep(1);
        check.due("restore(0)", x.restore(0), 0);
        String then = Look.at(x).replace("count 15 is 6", "count 15 is 0");
        check.due("an empty object, the first difference", Look.difference(then, empty), "no difference");
        check.due("keep", x.keep(200), 0);
        check.due("no old lie", x.of(0, 0, 4), 0);
        check.due("no old thief", x.atRisk(0), 0);
        check.due("its part", x.of(0, 0, 0), 9);
    }

    private static void restoreSlotKeepsIt() {
        check.says("which keeps it");
        SplitSecrets x = Made.filled();
        for (int round = 0; round < 3; round++) {
            check.due("restore(0)", x.restore(0), 3);
            check.due("caught", x.count(8), 0);
            check.due("the version", x.ofSecret(0, 0), 6);
            check.due("open for", x.ofSecret(0, 3), 9);
            x.refresh(0);
            x.lie(0, 0, 9, 9);
            x.merge(0);
            x.steal(0, 0, 6);
            x.pass(9);
            x.undo();
        }
    }

    private static void restoreIsAChange() {
        check.says("This is a change.");
        SplitSecrets x = new SplitSecrets();
        x.keep(1);
        x.save(0);
        x.pass(3);
        check.due("restore", x.restore(0), 1);
        check.due("changes", x.count(15), 3);
        check.due("beats", x.count(0), 0);
        check.due("undo", x.undo(), 2);
        check.due("beats", x.count(0), 3);
        for (int changes = 3; changes <= 9; changes++) {
            x.restore(0);
            check.due("changes", x.count(15), Math.min(6, changes));
        }
    }

    private static void restoreBringsEverything() {
        check.says("Saves everything except the pad, the history and the slots");
        for (int store = 0; store < 2; store++) {
            SplitSecrets x = Made.filledWithOneAsleep(store);
            String before = Look.at(x);
            x.save(1);
            x.sleep(store);
            x.refresh(0);
            x.lie(1, 0, 9, 9);
            x.merge(2);
            x.steal(0, 2, 1);
            x.set(OPEN, 1);
            x.burn(0);
            x.keep(9);
            x.pass(7);
            x.restore(1);
            String after = Look.at(x);
            check.due("restored, the first difference", Look.difference(after, before), "no difference");
        }
    }
}
