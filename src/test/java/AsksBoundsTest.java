/** The boundary cases that promises 12 to 21 name, a test for each sentence. */
public final class AsksBoundsTest {
    private static final int NO_SUCH = SplitSecrets.NO_SUCH, BAD_VALUE = SplitSecrets.BAD_VALUE;
    private static final int NOT_POSSIBLE = SplitSecrets.NOT_POSSIBLE, NONE = SplitSecrets.NONE;
    private static final int OPEN = SplitSecrets.OPEN, EACH = SplitSecrets.EACH, OLD = SplitSecrets.OLD;
    private static final Check check = new Check("AsksBoundsTest");

    public static void main(String[] args) {
        ofWhatIs0To7();
        ofNoSuchStoreOrSecret();
        ofSecretWhatIs0To7();
        ofSecretNoneIfItIsNotOpen();
        ofSecretNoSuchSecret();
        ofSecretPartsOfAllVersions();
        oldRank0IsTheLatest();
        oldThereAreNotSoMany();
        oldWhatIs0To3();
        oldPartsThatThievesHave();
        countWhatIs0To15();
        countOfAnEmptyAndAFullOne();
        countLiesThatPassed();
        countThePadAndTheChanges();
        otherwiseValueIs0To255();
        otherwiseIsLeftOverBy256();
        otherwiseNoSuch();
        passingOffsetIs0To255();
        passingLooksAtNoOtherLie();
        passingNoSuch();
        passesOffsetsAbove0();
        passesTagIs0To256();
        passesNoSuch();
        neededIs2Or1Or0();
        neededOfVersionsThatAreThere();
        neededIs0IfKnown();
        atRiskNowOrOldOnes();
        atRiskJustOnePart();
        neededAndAtRiskNoSuch();
        ifMergedAsMergeWould();
        ifMergedErrors();
        check.end();
    }

    // ---- of

    private static void ofWhatIs0To7() {
        check.says("BAD_VALUE if what is out of range");
        SplitSecrets x = new SplitSecrets();
        x.keep(9);
        x.sleep(0);
        x.sleep(1);
        for (int store = 0; store < 2; store++) {
            check.due("-1", x.of(store, 0, -1), BAD_VALUE);
            for (int what = 0; what <= 7; what++) {
                check.holds("what " + what, x.of(store, 0, what) >= 0);
            }
            check.due("8", x.of(store, 0, 8), BAD_VALUE);
            check.due("MIN", x.of(store, 0, Integer.MIN_VALUE), BAD_VALUE);
            check.due("MAX", x.of(store, 0, Integer.MAX_VALUE), BAD_VALUE);
        }
    }

    private static void ofNoSuchStoreOrSecret() {
        check.says("NO_SUCH if there is no such store or secret");
        SplitSecrets x = new SplitSecrets();
        check.due("of(0, 0, 0) of none", x.of(0, 0, 0), NO_SUCH);
        for (int secrets = 1; secrets <= 8; secrets++) {
            x.keep(secrets);
            for (int store = 0; store < 2; store++) {
                check.holds("the last one", x.of(store, secrets - 1, 0) >= 0);
                check.due("one more", x.of(store, secrets, 0), NO_SUCH);
                check.due("-1", x.of(store, -1, 0), NO_SUCH);
                check.due("-1, out of range", x.of(store, -1, 8), NO_SUCH);
            }
            check.due("the store -1", x.of(-1, 0, 0), NO_SUCH);
            check.due("the store 2", x.of(2, 0, 0), NO_SUCH);
            check.due("the store 2, out of range", x.of(2, 0, 8), NO_SUCH);
        }
    }

    // ---- ofSecret

    private static void ofSecretWhatIs0To7() {
        check.says("BAD_VALUE if what is out of range");
        SplitSecrets x = new SplitSecrets();
        x.keep(9);
        int[] first = {1, 0, NONE, 0, 0, 0, 0, 0};
        check.due("-1", x.ofSecret(0, -1), BAD_VALUE);
        for (int what = 0; what <= 7; what++) {
            check.due("what " + what, x.ofSecret(0, what), first[what]);
        }
        check.due("8", x.ofSecret(0, 8), BAD_VALUE);
        check.due("MIN", x.ofSecret(0, Integer.MIN_VALUE), BAD_VALUE);
        check.due("MAX", x.ofSecret(0, Integer.MAX_VALUE), BAD_VALUE);
    }

    private static void ofSecretNoneIfItIsNotOpen() {
        check.says("2 what is open (NONE if it is not open)");
        SplitSecrets x = new SplitSecrets();
        x.keep(0);
        check.due("never open", x.ofSecret(0, 2), NONE);
        x.merge(0);
        check.due("open as 0", x.ofSecret(0, 2), 0);
        check.due("for 1 beat", x.ofSecret(0, 3), 1);
        x.pass(1);
        check.due("no more", x.ofSecret(0, 2), NONE);
        x.undo();
        check.due("undone", x.ofSecret(0, 2), 0);
        x.set(OPEN, 20);
        x.lie(0, 0, 255, x.passing(0, 0, 255));
        x.merge(0);
        check.due("open as 255", x.ofSecret(0, 2), 255);
        x.pass(19);
        check.due("open in its last beat", x.ofSecret(0, 2), 255);
        x.pass(1);
        check.due("no more", x.ofSecret(0, 2), NONE);
    }

    private static void ofSecretNoSuchSecret() {
        check.says("NO_SUCH if there is no such secret");
        SplitSecrets x = new SplitSecrets();
        check.due("none is there", x.ofSecret(0, 0), NO_SUCH);
        for (int secrets = 1; secrets <= 8; secrets++) {
            x.keep(secrets);
            check.due("the last one", x.ofSecret(secrets - 1, 0), 1);
            check.due("one more", x.ofSecret(secrets, 0), NO_SUCH);
            check.due("one more, out of range", x.ofSecret(secrets, 8), NO_SUCH);
            check.due("-1", x.ofSecret(-1, 0), NO_SUCH);
        }
    }

    private static void ofSecretPartsOfAllVersions() {
        check.says("6 parts that thieves have of it, of all versions");
        SplitSecrets x = new SplitSecrets();
        x.set(OLD, 0);
        x.keep(1);
        x.keep(2);
        for (int version = 1; version <= 20; version++) {
            check.holds("steal", x.steal(0, 0, version) >= 0 && x.steal(1, 0, version) >= 0 && x.steal(0, 0, version) >= 0);
            check.due("parts", x.ofSecret(0, 6), 2 * version);
            x.refresh(0);
            check.due("parts, burnt", x.ofSecret(0, 6), 2 * version);
        }
        check.due("of the other secret", x.ofSecret(1, 6), 0);
    }

    // ---- old

    private static SplitSecrets withOldOnes(int olds) {
        SplitSecrets x = new SplitSecrets();
        x.set(OLD, 4);
        x.keep(200);
        for (int i = 0; i < olds; i++) {
            x.refresh(0);
        }
        return x;
    }

    private static void oldRank0IsTheLatest() {
        check.says("the latest one first; rank: 0 for the latest one");
        SplitSecrets x = withOldOnes(10);
        Draws draws = new Draws(1);
        for (int version = 1; version <= 10; version++) {
            int[] due = draws.version(200);
            if (version > 6) {
                int rank = 10 - version;
                check.due("the number", x.old(0, rank, 0), version);
                check.due("the part in the store 0", x.old(0, rank, 1), due[0]);
                check.due("the part in the store 1", x.old(0, rank, 2), due[1]);
            }
        }
    }

    private static void oldThereAreNotSoMany() {
        check.says("NO_SUCH if there is no such secret, or there are not so many");
        for (int olds = 0; olds <= 5; olds++) {
            SplitSecrets x = withOldOnes(olds);
            int there = Math.min(olds, 4);
            for (int rank = 0; rank <= 6; rank++) {
                check.due("rank " + rank + " of " + there, x.old(0, rank, 0), rank < there ? olds - rank : NO_SUCH);
            }
            check.due("too high, out of range", x.old(0, there, 4), NO_SUCH);
            check.due("rank -1", x.old(0, -1, 0), NO_SUCH);
            check.due("rank MIN", x.old(0, Integer.MIN_VALUE, 0), NO_SUCH);
            check.due("rank MAX", x.old(0, Integer.MAX_VALUE, 0), NO_SUCH);
            check.due("the secret 1", x.old(1, 0, 0), NO_SUCH);
            check.due("the secret -1", x.old(-1, 0, 0), NO_SUCH);
            check.due("the secret 1, out of range", x.old(1, 0, 4), NO_SUCH);
            x.burn(0);
            check.due("burnt", x.old(0, 0, 0), NO_SUCH);
        }
    }

    private static void oldWhatIs0To3() {
        check.says("BAD_VALUE if what is out of range");
        SplitSecrets x = withOldOnes(4);
        for (int rank = 0; rank < 4; rank++) {
            check.due("-1", x.old(0, rank, -1), BAD_VALUE);
            for (int what = 0; what <= 3; what++) {
                check.holds("what " + what, x.old(0, rank, what) >= 0);
            }
            check.due("4", x.old(0, rank, 4), BAD_VALUE);
            check.due("MIN", x.old(0, rank, Integer.MIN_VALUE), BAD_VALUE);
            check.due("MAX", x.old(0, rank, Integer.MAX_VALUE), BAD_VALUE);
        }
    }

    private static void oldPartsThatThievesHave() {
        check.says("3 parts of it that thieves have: 0 none, 1 that of the store 0, 2 that of the store 1, 3 both");
        for (int have = 0; have <= 3; have++) {
            SplitSecrets x = withOldOnes(0);
            stealParts(x, 1, have);
            for (int rank = 0; rank < 4; rank++) {
                x.refresh(0);
                check.due("stolen while it was now", x.old(0, rank, 3), have);
                for (int other = 0; other < rank; other++) {
                    check.due("of a later one", x.old(0, other, 3), 0);
                }
            }
            stealParts(x, 3, have);
            check.due("stolen when it is old", x.old(0, 1, 3), have);
        }
    }

    private static void stealParts(SplitSecrets x, int version, int have) {
        for (int store = 0; store < 2; store++) {
            if ((have >> store & 1) == 1) {
                x.steal(store, 0, version);
            }
        }
    }

    // ---- count

    private static void countWhatIs0To15() {
        check.says("BAD_VALUE if what is out of range");
        SplitSecrets x = new SplitSecrets();
        check.due("-1", x.count(-1), BAD_VALUE);
        for (int what = 0; what <= 15; what++) {
            check.holds("what " + what, x.count(what) >= 0);
        }
        check.due("16", x.count(16), BAD_VALUE);
        check.due("MIN", x.count(Integer.MIN_VALUE), BAD_VALUE);
        check.due("MAX", x.count(Integer.MAX_VALUE), BAD_VALUE);
    }

    private static void countOfAnEmptyAndAFullOne() {
        check.says("1 secrets, 2 open ones, 3 those known to thieves, as sets");
        SplitSecrets x = new SplitSecrets();
        check.due("no secrets", x.count(1), 0);
        check.due("none is open", x.count(2), 0);
        check.due("none is known", x.count(3), 0);
        x = Made.withEightSecrets();
        for (int secret = 0; secret < 8; secret++) {
            x.merge(secret);
            x.steal(0, secret, 1);
            x.steal(1, secret, 1);
        }
        check.due("secrets", x.count(1), 8);
        check.due("all are open", x.count(2), 255);
        check.due("all are known", x.count(3), 255);
        x.set(EACH, 1);
        x.pass(1);
        check.due("none is open", x.count(2), 0);
        check.due("versions made", x.count(6), 16);
        check.due("versions burnt", x.count(7), 0);
    }

    private static void countLiesThatPassed() {
        check.says("9 lies that passed so far: mergers in which some offset was above 0 and none was caught");
        for (int lies = 0; lies < 4; lies++) {
            SplitSecrets x = new SplitSecrets();
            x.keep(10);
            for (int store = 0; store < 2; store++) {
                if ((lies >> store & 1) == 1) {
                    x.lie(store, 0, 1, x.passing(store, 0, 1));
                }
            }
            x.merge(0);
            check.due("lies of the stores " + lies, x.count(9), lies == 0 ? 0 : 1);
            x.merge(0);
            check.due("again", x.count(9), lies == 0 ? 0 : 2);
            x.lie(1, 0, 1, 0);
            x.merge(0);
            check.due("caught", x.count(9), lies == 0 ? 0 : 2);
            check.due("lies caught", x.count(8), 1);
        }
    }

    private static void countThePadAndTheChanges() {
        check.says("14 the length of the pad, 15 how many changes can be undone");
        SplitSecrets x = new SplitSecrets();
        for (int length = 0; length <= 80; length++) {
            check.due("the length of the pad", x.count(14), length);
            x.put('k');
        }
        check.due("the length of the pad, refused", x.count(14), 80);
        check.due("no changes", x.count(15), 0);
        for (int changes = 1; changes <= 8; changes++) {
            x.pass(1);
            check.due("changes", x.count(15), Math.min(changes, 6));
        }
    }

    // ---- otherwise

    private static void otherwiseValueIs0To255() {
        check.says("value: 0 to 255");
        SplitSecrets x = new SplitSecrets();
        x.keep(33);
        for (int store = 0; store < 2; store++) {
            check.due("-1", x.otherwise(store, 0, -1), BAD_VALUE);
            check.due("0", x.otherwise(store, 0, 0), (256 - x.of(store, 0, 0)) % 256);
            check.due("255", x.otherwise(store, 0, 255), 255 - x.of(store, 0, 0));
            check.due("256", x.otherwise(store, 0, 256), BAD_VALUE);
            check.due("MIN", x.otherwise(store, 0, Integer.MIN_VALUE), BAD_VALUE);
            check.due("MAX", x.otherwise(store, 0, Integer.MAX_VALUE), BAD_VALUE);
        }
    }

    private static void otherwiseIsLeftOverBy256() {
        check.says("Tells which part in the other store would let a secret be another one, with the part that a store has of it now.");
        SplitSecrets x = new SplitSecrets();
        x.keep(33);
        x.refresh(0);
        x.lie(0, 0, 9, 9);
        x.lie(1, 0, 9, 9);
        for (int store = 0; store < 2; store++) {
            int part = x.of(store, 0, 0);
            check.due("the part itself", x.otherwise(store, 0, part), 0);
            check.due("one more", x.otherwise(store, 0, (part + 1) % 256), 1);
            check.due("one less", x.otherwise(store, 0, (part + 255) % 256), 255);
            check.due("the secret itself", x.otherwise(store, 0, 33), x.of(1 - store, 0, 0));
        }
    }

    private static void otherwiseNoSuch() {
        check.says("NO_SUCH if there is no such store or secret; BAD_VALUE if value is out of range");
        SplitSecrets x = new SplitSecrets();
        check.due("of none", x.otherwise(0, 0, 0), NO_SUCH);
        x.keep(1);
        check.due("the store -1", x.otherwise(-1, 0, 0), NO_SUCH);
        check.due("the store 2", x.otherwise(2, 0, 0), NO_SUCH);
        check.due("the secret -1", x.otherwise(0, -1, 0), NO_SUCH);
        check.due("the secret 1", x.otherwise(1, 1, 0), NO_SUCH);
        check.due("the secret 1, 256", x.otherwise(1, 1, 256), NO_SUCH);
        check.holds("the last one", x.otherwise(1, 0, 0) >= 0);
    }

    // ---- passing

    private static void passingOffsetIs0To255() {
        check.says("offset: 0 to 255");
        SplitSecrets x = new SplitSecrets();
        x.keep(144);
        for (int store = 0; store < 2; store++) {
            int part = x.of(store, 0, 0);
            check.due("-1", x.passing(store, 0, -1), BAD_VALUE);
            check.due("0", x.passing(store, 0, 0), 0);
            check.due("1", x.passing(store, 0, 1), due(x, store, part + 1));
            check.due("up to the part 255", x.passing(store, 0, 255 - part), due(x, store, 255));
            check.due("up to the part 0, the wrap-around", x.passing(store, 0, 256 - part), due(x, store, 0));
            check.due("255", x.passing(store, 0, 255), due(x, store, part - 1));
            check.due("256", x.passing(store, 0, 256), BAD_VALUE);
        }
    }

    /** The tag's offset by which the other store takes a told part. */
    private static int due(SplitSecrets x, int store, int told) {
        int tag = (x.of(1 - store, 0, 2) * told + x.of(1 - store, 0, 3)) % 257;
        return (tag + 257 - x.of(store, 0, 1)) % 257;
    }

    private static void passingLooksAtNoOtherLie() {
        check.says("Tells which tag's offset would let a lie of a store about a secret pass.");
        SplitSecrets x = new SplitSecrets();
        x.keep(144);
        for (int store = 0; store < 2; store++) {
            int due = x.passing(store, 0, 100);
            x.lie(store, 0, 255, 256);
            check.due("whatever it tells", x.passing(store, 0, 100), due);
            x.lie(1 - store, 0, 7, 0);
            check.due("whatever the other one tells", x.passing(store, 0, 100), due);
            x.sleep(store);
            check.due("asleep", x.passing(store, 0, 100), due);
            x.sleep(store);
        }
    }

    private static void passingNoSuch() {
        check.says("NO_SUCH if there is no such store or secret; BAD_VALUE if offset is out of range");
        SplitSecrets x = new SplitSecrets();
        check.due("of none", x.passing(0, 0, 0), NO_SUCH);
        x.keep(1);
        check.due("the store -1", x.passing(-1, 0, 0), NO_SUCH);
        check.due("the store 2", x.passing(2, 0, 0), NO_SUCH);
        check.due("the secret -1", x.passing(0, -1, 0), NO_SUCH);
        check.due("the secret 1", x.passing(1, 1, 0), NO_SUCH);
        check.due("the secret 1, 256", x.passing(1, 1, 256), NO_SUCH);
        check.due("MIN", x.passing(1, 0, Integer.MIN_VALUE), BAD_VALUE);
        check.due("MAX", x.passing(1, 0, Integer.MAX_VALUE), BAD_VALUE);
    }

    // ---- passes

    private static void passesOffsetsAbove0() {
        check.says("Returns how many offsets above 0 of a store would pass for a secret with a tag's offset.");
        SplitSecrets x = new SplitSecrets();
        x.keep(144);
        for (int store = 0; store < 2; store++) {
            check.due("the offset 0 is not counted", x.passes(store, 0, 0), 0);
            check.due("that of the offset 1", x.passes(store, 0, x.passing(store, 0, 1)), 1);
            check.due("that of the offset 255", x.passes(store, 0, x.passing(store, 0, 255)), 1);
            // The told part would have to be 256, which is none.
            int none = due(x, store, 256);
            check.due("that of no offset", x.passes(store, 0, none), 0);
            x.lie(store, 0, 3, 200);
            x.lie(1 - store, 0, 3, 200);
            check.due("whatever they tell", x.passes(store, 0, x.passing(store, 0, 1)), 1);
        }
    }

    private static void passesTagIs0To256() {
        check.says("tag: 0 to 256");
        int seen = 0;
        for (int seed = 0; seed < 4000; seed += 61) {
            SplitSecrets x = new SplitSecrets();
            x.seed(seed);
            x.keep(144);
            for (int store = 0; store < 2; store++) {
                check.due("-1", x.passes(store, 0, -1), BAD_VALUE);
                boolean none = due(x, store, 256) == 256;
                check.due("256", x.passes(store, 0, 256), none ? 0 : 1);
                check.due("257", x.passes(store, 0, 257), BAD_VALUE);
                seen += none ? 0 : 1;
            }
        }
        check.holds("offsets pass with the greatest tag's offset", seen > 0);
    }

    private static void passesNoSuch() {
        check.says("NO_SUCH if there is no such store or secret; BAD_VALUE if tag is out of range");
        SplitSecrets x = new SplitSecrets();
        check.due("of none", x.passes(0, 0, 0), NO_SUCH);
        x.keep(1);
        check.due("the store -1", x.passes(-1, 0, 0), NO_SUCH);
        check.due("the store 2", x.passes(2, 0, 0), NO_SUCH);
        check.due("the secret -1", x.passes(0, -1, 0), NO_SUCH);
        check.due("the secret 1", x.passes(1, 1, 0), NO_SUCH);
        check.due("the secret 1, 257", x.passes(1, 1, 257), NO_SUCH);
        check.due("MIN", x.passes(1, 0, Integer.MIN_VALUE), BAD_VALUE);
        check.due("MAX", x.passes(1, 0, Integer.MAX_VALUE), BAD_VALUE);
    }

    // ---- needed, atRisk

    private static void neededIs2Or1Or0() {
        check.says("Returns 0 if it is known; 1 if they have one part of a version that is there; otherwise 2");
        for (int store = 0; store < 2; store++) {
            SplitSecrets x = withOldOnes(0);
            check.due("no part", x.needed(0), 2);
            x.steal(store, 0, 1);
            check.due("one part", x.needed(0), 1);
            x.steal(store, 0, 1);
            check.due("the same part twice", x.needed(0), 1);
            x.steal(1 - store, 0, 1);
            check.due("both", x.needed(0), 0);
        }
    }

    private static void neededOfVersionsThatAreThere() {
        check.says("Tells how many parts thieves would have to take yet to know a secret, of the versions that are there.");
        SplitSecrets x = withOldOnes(0);
        x.steal(1, 0, 1);
        for (int old = 1; old <= 4; old++) {
            x.refresh(0);
            check.due("one part of an old one", x.needed(0), 1);
        }
        x.refresh(0);
        check.due("it is burnt", x.needed(0), 2);
        x.steal(0, 0, 6);
        x.steal(1, 0, 5);
        check.due("parts of two versions", x.needed(0), 1);
        x.burn(0);
        check.due("that of now is left", x.needed(0), 1);
        x.refresh(0);
        x.burn(0);
        check.due("none is left", x.needed(0), 2);
    }

    private static void neededIs0IfKnown() {
        check.says("Returns 0 if it is known");
        SplitSecrets x = withOldOnes(1);
        x.steal(0, 0, 1);
        x.steal(1, 0, 1);
        check.due("by an old one", x.needed(0), 0);
        x.burn(0);
        check.due("by one that is burnt", x.needed(0), 0);
        x.steal(0, 0, 2);
        check.due("with one part of another", x.needed(0), 0);
        check.due("which is at risk", x.atRisk(0), 1);
    }

    private static void atRiskNowOrOldOnes() {
        check.says("those that are there, now or old ones");
        SplitSecrets x = withOldOnes(4);
        check.due("none", x.atRisk(0), 0);
        for (int version = 5; version >= 1; version--) {
            x.steal(version % 2, 0, version);
            check.due("up to all five", x.atRisk(0), 6 - version);
        }
        x.refresh(0);
        check.due("without the one that is burnt", x.atRisk(0), 4);
        x.burn(0);
        check.due("without all that are burnt", x.atRisk(0), 0);
    }

    private static void atRiskJustOnePart() {
        check.says("of which thieves have just one part");
        SplitSecrets x = withOldOnes(1);
        for (int version = 1; version <= 2; version++) {
            x.steal(0, 0, version);
            check.due("one part", x.atRisk(0), 1);
            x.steal(1, 0, version);
            check.due("both", x.atRisk(0), 0);
        }
    }

    private static void neededAndAtRiskNoSuch() {
        check.says("NO_SUCH if there is no such secret");
        SplitSecrets x = new SplitSecrets();
        check.due("needed of none", x.needed(0), NO_SUCH);
        check.due("atRisk of none", x.atRisk(0), NO_SUCH);
        for (int secrets = 1; secrets <= 8; secrets++) {
            x.keep(secrets);
            check.due("needed of the last one", x.needed(secrets - 1), 2);
            check.due("atRisk of the last one", x.atRisk(secrets - 1), 0);
            check.due("needed of one more", x.needed(secrets), NO_SUCH);
            check.due("atRisk of one more", x.atRisk(secrets), NO_SUCH);
        }
        int[] none = {-1, Integer.MIN_VALUE, Integer.MAX_VALUE};
        for (int secret : none) {
            check.due("needed", x.needed(secret), NO_SUCH);
            check.due("atRisk", x.atRisk(secret), NO_SUCH);
        }
    }

    // ---- ifMerged

    private static void ifMergedAsMergeWould() {
        check.says("Returns as merge() would");
        SplitSecrets x = new SplitSecrets();
        x.keep(0);
        x.keep(255);
        dueMerged(x, 0, 0);
        dueMerged(x, 1, 255);
        x.lie(0, 1, 1, x.passing(0, 1, 1));
        dueMerged(x, 1, 0);
        x.lie(0, 1, 1, 0);
        dueMerged(x, 1, 1001);
        x.lie(1, 1, 1, 0);
        dueMerged(x, 1, 1000);
        x.lie(0, 1, 0, 0);
        dueMerged(x, 1, 1000);
        x.lie(0, 0, 0, 256);
        dueMerged(x, 0, 1001);
    }

    private static void dueMerged(SplitSecrets x, int secret, int answer) {
        check.due("ifMerged(" + secret + ")", x.ifMerged(secret), answer);
        check.due("merge(" + secret + ")", x.merge(secret), answer);
        check.due("ifMerged(" + secret + ") then", x.ifMerged(secret), answer);
    }

    private static void ifMergedErrors() {
        check.says("NO_SUCH if there is no such secret; NOT_POSSIBLE if a store sleeps");
        SplitSecrets x = new SplitSecrets();
        check.due("of none", x.ifMerged(0), NO_SUCH);
        x.keep(1);
        check.due("-1", x.ifMerged(-1), NO_SUCH);
        check.due("1", x.ifMerged(1), NO_SUCH);
        for (int store = 0; store < 2; store++) {
            x.sleep(store);
            check.due("0, asleep", x.ifMerged(0), NOT_POSSIBLE);
            check.due("1, asleep", x.ifMerged(1), NO_SUCH);
            x.sleep(store);
        }
        check.due("0, awake", x.ifMerged(0), 1);
    }
}
