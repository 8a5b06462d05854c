/** Promises 16 to 21: otherwise, passing, passes, needed, atRisk, ifMerged. */
public final class WhatIfTest {
    private static final int NO_SUCH = SplitSecrets.NO_SUCH, BAD_VALUE = SplitSecrets.BAD_VALUE;
    private static final int NOT_POSSIBLE = SplitSecrets.NOT_POSSIBLE;
    private static final Check check = new Check("WhatIfTest");

    public static void main(String[] args) {
        otherwise();
        passing();
        passes();
        needed();
        atRisk();
        ifMerged();
        check.end();
    }

    private static void otherwise() {
        SplitSecrets x = new SplitSecrets();
        check.due("otherwise of none", x.otherwise(0, 0, 256), NO_SUCH);
        x.keep(200);
        x.lie(0, 0, 9, 9);
        x.sleep(0);
        for (int store = 0; store < 2; store++) {
            SplitSecrets y = new SplitSecrets();
            y.keep(200);
            int own = y.of(store, 0, 0);
            for (int value = 0; value < 256; value++) {
                int part = y.otherwise(store, 0, value);
                check.holds("a part is 0 to 255", part >= 0 && part < 256);
                check.due("the secret by it", (part + own) % 256, value);
            }
            check.due("the part that is", x.otherwise(store, 0, 200), x.of(1 - store, 0, 0));
        }
        check.due("value 256", x.otherwise(0, 0, 256), BAD_VALUE);
        check.due("value -1", x.otherwise(0, 0, -1), BAD_VALUE);
        check.due("otherwise(2, 0, 256)", x.otherwise(2, 0, 256), NO_SUCH);
        check.due("otherwise(-1, 0, 0)", x.otherwise(-1, 0, 0), NO_SUCH);
        check.due("otherwise(0, 1, 256)", x.otherwise(0, 1, 256), NO_SUCH);
        check.due("otherwise(0, -1, 0)", x.otherwise(0, -1, 0), NO_SUCH);
        check.due("nothing changes", x.count(15), 3);
    }

    private static void passing() {
        for (int store = 0; store < 2; store++) {
            for (int offset = 0; offset < 256; offset++) {
                SplitSecrets x = new SplitSecrets();
                x.keep(123);
                x.lie(store, 0, 77, 77);
                int tag = x.passing(store, 0, offset);
                check.holds("a tag's offset is 0 to 256", tag >= 0 && tag < 257);
                x.lie(store, 0, offset, tag);
                check.due("the lie passes", x.merge(0), (123 + offset) % 256);
            }
        }
        SplitSecrets x = new SplitSecrets();
        check.due("passing of none", x.passing(0, 0, 256), NO_SUCH);
        x.keep(1);
        check.due("offset 256", x.passing(0, 0, 256), BAD_VALUE);
        check.due("offset -1", x.passing(0, 0, -1), BAD_VALUE);
        check.due("offset 0", x.passing(1, 0, 0), 0);
        check.due("passing(2, 0, 256)", x.passing(2, 0, 256), NO_SUCH);
        check.due("passing(-1, 0, 0)", x.passing(-1, 0, 0), NO_SUCH);
        check.due("passing(0, 1, 256)", x.passing(0, 1, 256), NO_SUCH);
        check.due("passing(0, -1, 0)", x.passing(0, -1, 0), NO_SUCH);
    }

    private static void passes() {
        SplitSecrets x = new SplitSecrets();
        check.due("passes of none", x.passes(0, 0, 257), NO_SUCH);
        x.keep(55);
        x.sleep(1);
        for (int store = 0; store < 2; store++) {
            SplitSecrets y = new SplitSecrets();
            y.keep(55);
            y.sleep(1);
            int[] version = new Draws(1).version(55);
            int[] due = new int[257];
            for (int offset = 1; offset < 256; offset++) {
                int told = (version[store] + offset) % 256;
                int tag = (version[5 - store] * told + version[7 - store]) % 257;
                due[(tag - version[2 + store] + 257) % 257]++;
            }
            int all = 0;
            for (int tag = 0; tag < 257; tag++) {
                check.due("passes(" + store + ", 0, " + tag + ")", y.passes(store, 0, tag), due[tag]);
                all += due[tag];
            }
            check.due("all offsets above 0", all, 255);
            check.due("no offset passes with the tag as it is", x.passes(store, 0, 0), 0);
        }
        check.due("tag 257", x.passes(0, 0, 257), BAD_VALUE);
        check.due("tag -1", x.passes(0, 0, -1), BAD_VALUE);
        check.due("passes(2, 0, 257)", x.passes(2, 0, 257), NO_SUCH);
        check.due("passes(-1, 0, 0)", x.passes(-1, 0, 0), NO_SUCH);
        check.due("passes(0, 1, 257)", x.passes(0, 1, 257), NO_SUCH);
        check.due("passes(0, -1, 0)", x.passes(0, -1, 0), NO_SUCH);
    }

    private static void needed() {
        SplitSecrets x = new SplitSecrets();
        check.due("needed of none", x.needed(0), NO_SUCH);
        x.keep(5);
        x.keep(6);
        check.due("both parts", x.needed(0), 2);
        x.steal(0, 0, 1);
        check.due("one part", x.needed(0), 1);
        check.due("both parts of the other", x.needed(1), 2);
        x.refresh(0);
        check.due("one part of the old one", x.needed(0), 1);
        x.burn(0);
        check.due("the old one is burnt", x.needed(0), 2);
        x.steal(1, 0, 2);
        check.due("one part again", x.needed(0), 1);
        x.steal(0, 0, 2);
        check.due("known", x.needed(0), 0);
        x.refresh(0);
        x.burn(0);
        check.due("known though burnt", x.needed(0), 0);
        check.due("needed(2)", x.needed(2), NO_SUCH);
        check.due("needed(-1)", x.needed(-1), NO_SUCH);
    }

    private static void atRisk() {
        SplitSecrets x = new SplitSecrets();
        check.due("atRisk of none", x.atRisk(0), NO_SUCH);
        x.set(SplitSecrets.OLD, 4);
        x.keep(5);
        check.due("none", x.atRisk(0), 0);
        for (int version = 1; version <= 5; version++) {
            x.steal(version % 2, 0, version);
            check.due("now and old ones", x.atRisk(0), version);
            if (version < 5) {
                x.refresh(0);
            }
        }
        x.steal(0, 0, 3);
        check.due("both parts are no risk any more", x.atRisk(0), 4);
        x.refresh(0);
        check.due("the oldest one is burnt", x.atRisk(0), 3);
        x.burn(0);
        check.due("all old ones are burnt", x.atRisk(0), 0);
        check.due("atRisk(1)", x.atRisk(1), NO_SUCH);
        check.due("atRisk(-1)", x.atRisk(-1), NO_SUCH);
    }

    private static void ifMerged() {
        SplitSecrets x = new SplitSecrets();
        check.due("ifMerged of none", x.ifMerged(0), NO_SUCH);
        x.keep(5);
        check.due("open", x.ifMerged(0), 5);
        x.lie(0, 0, 4, x.passing(0, 0, 4));
        check.due("a lie that passes", x.ifMerged(0), 9);
        x.lie(0, 0, 4, 0);
        check.due("caught by the store 1", x.ifMerged(0), 1001);
        x.lie(1, 0, 0, 4);
        check.due("caught by the store 0", x.ifMerged(0), 1000);
        check.due("nothing changes: caught", x.count(8) + x.ofSecret(0, 4), 0);
        check.due("nothing changes: opened", x.ofSecret(0, 7) + x.count(2) + x.count(9), 0);
        check.due("nothing changes: history", x.count(15), 4);
        check.due("ifMerged(1)", x.ifMerged(1), NO_SUCH);
        check.due("ifMerged(-1)", x.ifMerged(-1), NO_SUCH);
        x.sleep(0);
        check.due("ifMerged(1), asleep", x.ifMerged(1), NO_SUCH);
        check.due("ifMerged(0), store 0 asleep", x.ifMerged(0), NOT_POSSIBLE);
        x.sleep(0);
        x.sleep(1);
        check.due("ifMerged(0), store 1 asleep", x.ifMerged(0), NOT_POSSIBLE);
    }
}
