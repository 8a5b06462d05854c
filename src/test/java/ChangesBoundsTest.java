/** The boundary cases that promises 1 to 11 name, a test for each sentence. */
public final class ChangesBoundsTest {
    private static final int NO_SUCH = SplitSecrets.NO_SUCH, BAD_VALUE = SplitSecrets.BAD_VALUE;
    private static final int TOO_MANY = SplitSecrets.TOO_MANY, NOT_POSSIBLE = SplitSecrets.NOT_POSSIBLE;
    private static final int OPEN = SplitSecrets.OPEN, EACH = SplitSecrets.EACH, OLD = SplitSecrets.OLD;
    private static final int[] FAR = {Integer.MIN_VALUE, Integer.MIN_VALUE + 1, -65537, -256, 65536, Integer.MAX_VALUE - 1, Integer.MAX_VALUE};
    private static final Check check = new Check("ChangesBoundsTest");

    public static void main(String[] args) {
        newObjectIsEmptyAndAwake();
        noSuchSetting();
        valueOutOfItsRange();
        tooManyAreBurntWhenRefreshedNext();
        tooManyAreBurntWhenABeatRefreshes();
        moreAreKeptOnlyFromThenOn();
        seedIs0To9999();
        seedReturnsThePreviousX();
        keepIs0To255();
        keepTooManyIfThereAre8();
        keepNotPossibleIfAStoreSleeps();
        refreshReturnsTheVersionThen();
        refreshNoSuchSecret();
        refreshAbove999();
        burnReturnsHowMany();
        burnErrors();
        sleepOrWakesUp();
        sleepNoSuchStore();
        lieOffsetIs0To255();
        lieTagIs0To256();
        lieReturnsThePreviousOffset();
        lieWith0And0NoMore();
        lieNoSuchStoreOrSecret();
        mergeReturnsWhatIsOpen();
        mergeReturns1000Or1001();
        mergeIsAChangeAlsoIfCaught();
        stealReturnsThePart();
        stealVersionIsNotThere();
        passIs1To99();
        passReturnsVersionsMade();
        passNotAbove9999();
        farValuesAreRefused();
        check.end();
    }

    private static void newObjectIsEmptyAndAwake() {
        check.says("Creates two stores that are empty and awake.");
        SplitSecrets x = new SplitSecrets();
        check.due("secrets", x.count(1), 0);
        check.due("the store 0 sleeps", x.count(4), 0);
        check.due("the store 1 sleeps", x.count(5), 0);
        check.due("versions made", x.count(6), 0);
        for (int secret = -1; secret <= 8; secret++) {
            check.due("ofSecret", x.ofSecret(secret, 0), NO_SUCH);
            check.due("of", x.of(0, secret, 0), NO_SUCH);
            check.due("of", x.of(1, secret, 0), NO_SUCH);
            check.due("old", x.old(secret, 0, 0), NO_SUCH);
            check.due("refresh", x.refresh(secret), NO_SUCH);
            check.due("merge", x.merge(secret), NO_SUCH);
        }
        check.due("changes", x.count(15), 0);
        check.due("keep", x.keep(0), 0);
    }

    // ---- set

    private static void noSuchSetting() {
        check.says("BAD_VALUE if there is no such setting");
        SplitSecrets x = new SplitSecrets();
        check.due("set(-1, 1)", x.set(-1, 1), BAD_VALUE);
        check.due("set(0, 1)", x.set(0, 1), 1);
        check.due("set(1, 1)", x.set(1, 1), 0);
        check.due("set(2, 1)", x.set(2, 1), 2);
        check.due("set(3, 1)", x.set(3, 1), BAD_VALUE);
    }

    private static void valueOutOfItsRange() {
        check.says("or the value is out of its range");
        SplitSecrets x = new SplitSecrets();
        check.due("OPEN 0", x.set(OPEN, 0), BAD_VALUE);
        check.due("OPEN 21", x.set(OPEN, 21), BAD_VALUE);
        check.due("OPEN 20", x.set(OPEN, 20), 1);
        check.due("OPEN 1", x.set(OPEN, 1), 20);
        check.due("EACH -1", x.set(EACH, -1), BAD_VALUE);
        check.due("EACH 100", x.set(EACH, 100), BAD_VALUE);
        check.due("EACH 99", x.set(EACH, 99), 0);
        check.due("EACH 0", x.set(EACH, 0), 99);
        check.due("OLD -1", x.set(OLD, -1), BAD_VALUE);
        check.due("OLD 5", x.set(OLD, 5), BAD_VALUE);
        check.due("OLD 4", x.set(OLD, 4), 2);
        check.due("OLD 0", x.set(OLD, 0), 4);
        check.due("the previous value, of OPEN", x.set(OPEN, 2), 1);
    }

    /** Two secrets with four old versions each. */
    private static SplitSecrets withFourOldOnes() {
        SplitSecrets x = new SplitSecrets();
        x.set(OLD, 4);
        x.keep(70);
        x.keep(71);
        for (int i = 0; i < 4; i++) {
            x.refresh(0);
            x.refresh(1);
        }
        return x;
    }

    private static void tooManyAreBurntWhenRefreshedNext() {
        check.says("(old versions that are too many are burnt when that secret is refreshed next)");
        for (int old = 0; old <= 4; old++) {
            SplitSecrets x = withFourOldOnes();
            x.set(OLD, old);
            x.pass(3);
            x.merge(0);
            check.due("old versions yet", x.ofSecret(0, 1), 4);
            check.due("burnt yet", x.count(7), 0);
            check.holds("the oldest one is there yet", x.steal(0, 0, 1) >= 0);
            x.refresh(0);
            check.due("old versions, OLD is " + old, x.ofSecret(0, 1), old);
            check.due("burnt", x.count(7), 5 - old);
            check.due("the latest one burnt", x.steal(0, 0, 5 - old), NO_SUCH);
            check.holds("the oldest one kept", x.steal(0, 0, 6 - old) >= 0);
            check.due("old versions of the other secret", x.ofSecret(1, 1), 4);
            x.burn(1);
            check.due("they are burnt by burn, all", x.count(7), 9 - old);
        }
    }

    private static void tooManyAreBurntWhenABeatRefreshes() {
        check.says("(old versions that are too many are burnt when that secret is refreshed next)");
        SplitSecrets x = withFourOldOnes();
        x.set(OLD, 1);
        x.set(EACH, 2);
        x.pass(1);
        check.due("burnt yet", x.count(7), 0);
        x.pass(1);
        check.due("burnt", x.count(7), 8);
        check.due("old versions", x.ofSecret(0, 1), 1);
        check.due("old versions", x.ofSecret(1, 1), 1);
        check.due("its number", x.old(1, 0, 0), 5);
    }

    private static void moreAreKeptOnlyFromThenOn() {
        check.says("of these the OLD latest ones are kept, in both stores; others are burnt");
        SplitSecrets x = new SplitSecrets();
        x.set(OLD, 0);
        x.keep(70);
        x.refresh(0);
        x.refresh(0);
        x.set(OLD, 4);
        check.due("what is burnt is gone", x.ofSecret(0, 1), 0);
        for (int olds = 1; olds <= 4; olds++) {
            x.refresh(0);
            check.due("old versions", x.ofSecret(0, 1), olds);
            check.due("the oldest one", x.old(0, olds - 1, 0), 3);
            check.due("burnt", x.count(7), 2);
        }
        x.refresh(0);
        check.due("old versions", x.ofSecret(0, 1), 4);
        check.due("burnt", x.count(7), 3);
    }

    // ---- seed

    private static void seedIs0To9999() {
        check.says("seed: 0 to 9999; BAD_VALUE if seed is out of range");
        SplitSecrets x = new SplitSecrets();
        check.due("seed(-1)", x.seed(-1), BAD_VALUE);
        check.due("seed(10000)", x.seed(10000), BAD_VALUE);
        check.due("x", x.count(10), 1);
        check.due("seed(0)", x.seed(0), 1);
        check.due("x", x.count(10), 0);
        check.due("seed(9999)", x.seed(9999), 0);
        check.due("x", x.count(10), 9999);
        check.due("no version is made", x.count(6), 0);
    }

    private static void seedReturnsThePreviousX() {
        check.says("Returns the previous x");
        int greatest = 0;
        SplitSecrets x = new SplitSecrets();
        for (int i = 0; i < 8; i++) {
            x.keep(i);
            int drawn = x.count(10);
            greatest = Math.max(greatest, drawn);
            check.due("seed behind draws", x.seed(i), drawn);
        }
        check.holds("one of them was above 9999", greatest > 9999);
    }

    // ---- keep

    private static void keepIs0To255() {
        check.says("secret: 0 to 255; Returns its number; BAD_VALUE if secret is out of range");
        for (int from = 0; from < 256; from += 8) {
            SplitSecrets x = new SplitSecrets();
            check.due("keep(-1)", x.keep(-1), BAD_VALUE);
            check.due("keep(256)", x.keep(256), BAD_VALUE);
            for (int i = 0; i < 8; i++) {
                check.due("keep", x.keep(from + i), i);
                check.due("the secret", x.merge(i), from + i);
            }
        }
    }

    private static void keepTooManyIfThereAre8() {
        check.says("TOO_MANY if there are 8");
        SplitSecrets x = Made.withEightSecrets();
        check.due("the 9th", x.keep(0), TOO_MANY);
        check.due("the 9th", x.keep(255), TOO_MANY);
        check.due("a wrong 9th", x.keep(256), BAD_VALUE);
        check.due("undo", x.undo(), 5);
        check.due("the 8th again", x.keep(255), 7);
        check.due("the 9th", x.keep(255), TOO_MANY);
    }

    private static void keepNotPossibleIfAStoreSleeps() {
        check.says("NOT_POSSIBLE if a store sleeps");
        for (int store = 0; store < 2; store++) {
            SplitSecrets x = new SplitSecrets();
            x.sleep(store);
            check.due("keep", x.keep(5), NOT_POSSIBLE);
            check.due("secrets", x.count(1), 0);
            check.due("x", x.count(10), 1);
            x.sleep(1 - store);
            check.due("keep, both asleep", x.keep(5), NOT_POSSIBLE);
            x.sleep(store);
            check.due("keep, the other one asleep", x.keep(5), NOT_POSSIBLE);
            x.sleep(1 - store);
            check.due("keep, both awake", x.keep(5), 0);
        }
    }

    // ---- refresh

    private static void refreshReturnsTheVersionThen() {
        check.says("Returns the number of its version then");
        SplitSecrets x = Made.withEightSecrets();
        check.due("refresh(0)", x.refresh(0), 2);
        check.due("refresh(7)", x.refresh(7), 2);
        check.due("refresh(0)", x.refresh(0), 3);
        x.burn(0);
        check.due("refresh(0), burnt", x.refresh(0), 4);
        x.undo();
        check.due("refresh(0), undone", x.refresh(0), 4);
    }

    private static void refreshNoSuchSecret() {
        check.says("NO_SUCH if there is no such secret");
        SplitSecrets x = new SplitSecrets();
        check.due("refresh(0) of none", x.refresh(0), NO_SUCH);
        for (int secrets = 1; secrets <= 8; secrets++) {
            x.keep(secrets);
            check.due("the last one", x.refresh(secrets - 1), 2);
            check.due("one more", x.refresh(secrets), NO_SUCH);
        }
        check.due("refresh(-1)", x.refresh(-1), NO_SUCH);
    }

    private static void refreshAbove999() {
        check.says("or its version would be above 999");
        SplitSecrets x = Made.withVersion(998);
        int made = x.count(6);
        check.due("to 999", x.refresh(0), 999);
        check.due("above 999", x.refresh(0), NOT_POSSIBLE);
        check.due("the version", x.ofSecret(0, 0), 999);
        check.due("versions made", x.count(6), made + 1);
        check.due("the latest old one", x.old(0, 0, 0), 998);
        x.keep(6);
        check.due("another secret", x.refresh(1), 2);
        check.due("it merges", x.merge(0), 77);
        check.due("it burns", x.burn(0), 2);
        check.due("above 999, burnt", x.refresh(0), NOT_POSSIBLE);
    }

    // ---- burn

    private static void burnReturnsHowMany() {
        check.says("Returns how many");
        SplitSecrets x = withFourOldOnes();
        check.due("the full case", x.burn(0), 4);
        check.due("the empty case", x.burn(0), 0);
        x.refresh(0);
        check.due("one", x.burn(0), 1);
        check.due("burnt", x.count(7), 5);
        check.due("those of the other", x.ofSecret(1, 1), 4);
    }

    private static void burnErrors() {
        check.says("NO_SUCH if there is no such secret; NOT_POSSIBLE if a store sleeps");
        SplitSecrets x = withFourOldOnes();
        check.due("burn(-1)", x.burn(-1), NO_SUCH);
        check.due("burn(2)", x.burn(2), NO_SUCH);
        for (int store = 0; store < 2; store++) {
            x.sleep(store);
            check.due("burn(-1), asleep", x.burn(-1), NO_SUCH);
            check.due("burn(2), asleep", x.burn(2), NO_SUCH);
            check.due("burn(1), asleep", x.burn(1), NOT_POSSIBLE);
            check.due("old versions", x.ofSecret(1, 1), 4);
            check.due("burnt", x.count(7), 0);
            x.sleep(store);
        }
        check.due("burn(1), awake", x.burn(1), 4);
    }

    // ---- sleep

    private static void sleepOrWakesUp() {
        check.says("Returns 1 if it sleeps then, otherwise 0");
        SplitSecrets x = new SplitSecrets();
        for (int round = 0; round < 3; round++) {
            for (int store = 0; store < 2; store++) {
                check.due("asleep", x.sleep(store), 1);
                check.due("it sleeps", x.count(4 + store), 1);
                check.due("the other one does not", x.count(5 - store), 0);
                check.due("awake", x.sleep(store), 0);
                check.due("it does not sleep", x.count(4 + store), 0);
            }
        }
        check.due("without a secret", x.count(1), 0);
    }

    private static void sleepNoSuchStore() {
        check.says("NO_SUCH if there is no such store");
        SplitSecrets x = new SplitSecrets();
        check.due("sleep(-1)", x.sleep(-1), NO_SUCH);
        check.due("sleep(0)", x.sleep(0), 1);
        check.due("sleep(1)", x.sleep(1), 1);
        check.due("sleep(2)", x.sleep(2), NO_SUCH);
        check.due("changes", x.count(15), 2);
    }

    // ---- lie

    private static void lieOffsetIs0To255() {
        check.says("offset: 0 to 255");
        SplitSecrets x = new SplitSecrets();
        x.keep(1);
        for (int store = 0; store < 2; store++) {
            check.due("-1", x.lie(store, 0, -1, 0), BAD_VALUE);
            check.due("255", x.lie(store, 0, 255, 0), 0);
            check.due("256", x.lie(store, 0, 256, 0), BAD_VALUE);
            check.due("the offset", x.of(store, 0, 4), 255);
            check.due("0", x.lie(store, 0, 0, 0), 255);
            check.due("the offset", x.of(store, 0, 4), 0);
        }
    }

    private static void lieTagIs0To256() {
        check.says("tag: 0 to 256");
        SplitSecrets x = new SplitSecrets();
        x.keep(1);
        for (int store = 0; store < 2; store++) {
            check.due("-1", x.lie(store, 0, 5, -1), BAD_VALUE);
            check.due("256", x.lie(store, 0, 5, 256), 0);
            check.due("257", x.lie(store, 0, 6, 257), BAD_VALUE);
            check.due("the tag's offset", x.of(store, 0, 5), 256);
            check.due("the offset", x.of(store, 0, 4), 5);
            check.due("0", x.lie(store, 0, 5, 0), 5);
            check.due("the tag's offset", x.of(store, 0, 5), 0);
        }
    }

    private static void lieReturnsThePreviousOffset() {
        check.says("Returns the previous offset");
        SplitSecrets x = Made.withEightSecrets();
        check.due("the first", x.lie(0, 7, 9, 100), 0);
        check.due("of the other store", x.lie(1, 7, 8, 101), 0);
        check.due("of another secret", x.lie(0, 6, 7, 102), 0);
        check.due("not the tag's", x.lie(0, 7, 1, 103), 9);
        check.due("then", x.lie(0, 7, 0, 0), 1);
        check.due("of the other store", x.lie(1, 7, 0, 0), 8);
        check.due("of another secret", x.lie(0, 6, 0, 0), 7);
    }

    private static void lieWith0And0NoMore() {
        check.says("A store lies about a secret from now on (with 0 and 0: no more).");
        SplitSecrets x = new SplitSecrets();
        x.keep(1);
        x.lie(0, 0, 1, 0);
        check.due("caught", x.merge(0), 1001);
        x.lie(0, 0, 0, 0);
        check.due("no more", x.merge(0), 1);
        check.due("no lie passed", x.count(9), 0);
        x.lie(0, 0, 0, 1);
        check.due("a tag's offset alone is a lie", x.merge(0), 1001);
        x.lie(0, 0, 0, 0);
        check.due("no more", x.merge(0), 1);
        check.due("caught", x.count(8), 2);
    }

    private static void lieNoSuchStoreOrSecret() {
        check.says("NO_SUCH if there is no such store or secret; BAD_VALUE if offset or tag is out of range");
        SplitSecrets x = new SplitSecrets();
        check.due("none is there", x.lie(0, 0, 0, 0), NO_SUCH);
        x.keep(1);
        check.due("lie(-1, 0)", x.lie(-1, 0, 0, 0), NO_SUCH);
        check.due("lie(2, 0)", x.lie(2, 0, 0, 0), NO_SUCH);
        check.due("lie(0, -1)", x.lie(0, -1, 0, 0), NO_SUCH);
        check.due("lie(1, 1)", x.lie(1, 1, 0, 0), NO_SUCH);
        check.due("lie(1, 1, 256, 257)", x.lie(1, 1, 256, 257), NO_SUCH);
        check.due("lie(1, 0, 256, 256)", x.lie(1, 0, 256, 256), BAD_VALUE);
        check.due("lie(1, 0, 255, 257)", x.lie(1, 0, 255, 257), BAD_VALUE);
        check.due("lie(1, 0, 255, 256)", x.lie(1, 0, 255, 256), 0);
    }

    // ---- merge

    private static void mergeReturnsWhatIsOpen() {
        check.says("Returns what is open then, 0 to 255");
        SplitSecrets x = new SplitSecrets();
        x.keep(0);
        x.keep(255);
        check.due("the least", x.merge(0), 0);
        check.due("the greatest", x.merge(1), 255);
        check.due("open ones", x.count(2), 3);
        check.due("merge(2)", x.merge(2), NO_SUCH);
        check.due("merge(-1)", x.merge(-1), NO_SUCH);
        x.sleep(1);
        check.due("merge(1), asleep", x.merge(1), NOT_POSSIBLE);
        check.due("merge(2), asleep", x.merge(2), NO_SUCH);
        check.due("opened", x.ofSecret(1, 7), 1);
    }

    private static void mergeReturns1000Or1001() {
        check.says("1000 if the store 0 catches a lie, 1001 if the store 1 does");
        for (int secret = 0; secret < 256; secret += 85) {
            for (int offset = 0; offset < 256; offset += 15) {
                SplitSecrets x = new SplitSecrets();
                x.keep(secret);
                int right = x.passing(0, 0, offset);
                x.lie(0, 0, offset, (right + 1) % 257);
                check.due("beside the tag's offset that passes", x.merge(0), 1001);
                x.lie(0, 0, offset, (right + 256) % 257);
                check.due("at its other side", x.merge(0), 1001);
                x.lie(0, 0, offset, right);
                check.due("that passes", x.merge(0), (secret + offset) % 256);
                right = x.passing(1, 0, offset);
                x.lie(1, 0, offset, (right + 1) % 257);
                check.due("beside it, told by the store 1", x.merge(0), 1000);
                x.lie(1, 0, offset, (right + 256) % 257);
                check.due("at its other side", x.merge(0), 1000);
                x.lie(1, 0, offset, right);
                check.due("that passes", x.merge(0), (secret + 2 * offset) % 256);
            }
        }
    }

    private static void mergeIsAChangeAlsoIfCaught() {
        check.says("This is a change, also if a lie is caught.");
        SplitSecrets x = new SplitSecrets();
        x.keep(1);
        x.merge(0);
        check.due("changes", x.count(15), 2);
        x.lie(1, 0, 1, 0);
        x.merge(0);
        check.due("changes", x.count(15), 4);
        x.sleep(0);
        x.merge(0);
        check.due("not if it is refused", x.count(15), 5);
        x.undo();
        check.due("undo", x.undo(), 3);
        check.due("caught", x.count(8), 0);
        check.due("of the secret", x.ofSecret(0, 4), 0);
    }

    // ---- steal

    private static void stealReturnsThePart() {
        check.says("Returns the part");
        int least = 255;
        int greatest = 0;
        for (int seed = 0; seed < 10000; seed += 11) {
            SplitSecrets x = new SplitSecrets();
            x.seed(seed);
            x.keep(seed % 256);
            int[] version = new Draws(seed).version(seed % 256);
            for (int store = 0; store < 2; store++) {
                int part = x.steal(store, 0, 1);
                check.due("of the store " + store, part, version[store]);
                least = Math.min(least, part);
                greatest = Math.max(greatest, part);
            }
        }
        check.due("the least", least, 0);
        check.due("the greatest", greatest, 255);
    }

    private static void stealVersionIsNotThere() {
        check.says("NO_SUCH if there is no such store or secret, or that version of it is not there");
        SplitSecrets x = withFourOldOnes();
        check.due("steal(-1, 0, 5)", x.steal(-1, 0, 5), NO_SUCH);
        check.due("steal(2, 0, 5)", x.steal(2, 0, 5), NO_SUCH);
        check.due("steal(0, -1, 5)", x.steal(0, -1, 5), NO_SUCH);
        check.due("steal(0, 2, 5)", x.steal(0, 2, 5), NO_SUCH);
        check.due("above the version now", x.steal(0, 0, 6), NO_SUCH);
        check.holds("the version now", x.steal(0, 0, 5) >= 0);
        check.holds("the oldest one", x.steal(0, 0, 1) >= 0);
        check.due("the version 0", x.steal(0, 0, 0), NO_SUCH);
        check.due("the version -1", x.steal(0, 0, -1), NO_SUCH);
        x.refresh(0);
        check.due("the oldest one, burnt", x.steal(0, 0, 1), NO_SUCH);
        check.holds("the next", x.steal(0, 0, 2) >= 0);
        check.holds("that of the other secret", x.steal(0, 1, 1) >= 0);
        x.burn(0);
        check.due("the latest old one, burnt", x.steal(0, 0, 5), NO_SUCH);
        check.holds("the version now", x.steal(0, 0, 6) >= 0);
    }

    // ---- pass

    private static void passIs1To99() {
        check.says("beats: 1 to 99; BAD_VALUE if beats is out of range");
        SplitSecrets x = new SplitSecrets();
        check.due("pass(0)", x.pass(0), BAD_VALUE);
        check.due("pass(-1)", x.pass(-1), BAD_VALUE);
        check.due("pass(100)", x.pass(100), BAD_VALUE);
        check.due("beats", x.count(0), 0);
        check.due("pass(1)", x.pass(1), 0);
        check.due("beats", x.count(0), 1);
        check.due("pass(99)", x.pass(99), 0);
        check.due("beats", x.count(0), 100);
    }

    private static void passReturnsVersionsMade() {
        check.says("Returns how many versions are made in them");
        SplitSecrets x = Made.withEightSecrets();
        check.due("none", x.pass(99), 0);
        x.set(EACH, 1);
        check.due("the most", x.pass(99), 8 * 99);
        check.due("versions made so far", x.count(6), 8 + 8 * 99);
        check.due("versions burnt so far", x.count(7), 8 * 97);
        x.set(EACH, 10);
        check.due("beats 199 and 200", x.pass(2), 8);
        check.due("beats 201 to 209", x.pass(9), 0);
        x.sleep(0);
        check.due("asleep", x.pass(99), 0);
    }

    private static void passNotAbove9999() {
        check.says("NOT_POSSIBLE if there would be more than 9999 beats");
        SplitSecrets x = Made.withBeats(9900);
        check.due("99 more, up to 9999", x.pass(99), 0);
        check.due("beats", x.count(0), 9999);
        check.due("one more", x.pass(1), NOT_POSSIBLE);
        check.due("99 more", x.pass(99), NOT_POSSIBLE);
        x.undo();
        check.due("beats", x.count(0), 9900);
        check.due("one more", x.pass(1), 0);
        check.due("99 more, up to 10000", x.pass(99), NOT_POSSIBLE);
        check.due("beats", x.count(0), 9901);
        check.due("98 more, up to 9999", x.pass(98), 0);
        check.due("beats", x.count(0), 9999);
        x.keep(1);
        x.merge(0);
        check.due("one more", x.pass(1), NOT_POSSIBLE);
        check.due("it stays open", x.ofSecret(0, 3), 1);
    }

    private static void farValuesAreRefused() {
        check.says("names its errors");
        SplitSecrets x = Made.filled();
        for (int far : FAR) {
            check.due("set of a far setting", x.set(far, 1), BAD_VALUE);
            check.due("set to a far value", x.set(EACH, far), BAD_VALUE);
            check.due("seed", x.seed(far), BAD_VALUE);
            check.due("keep", x.keep(far), BAD_VALUE);
            check.due("refresh", x.refresh(far), NO_SUCH);
            check.due("burn", x.burn(far), NO_SUCH);
            check.due("sleep", x.sleep(far), NO_SUCH);
            check.due("lie of a far store", x.lie(far, 0, 0, 0), NO_SUCH);
            check.due("lie about a far secret", x.lie(0, far, 0, 0), NO_SUCH);
            check.due("lie with a far offset", x.lie(0, 0, far, 0), BAD_VALUE);
            check.due("lie with a far tag's offset", x.lie(0, 0, 0, far), BAD_VALUE);
            check.due("merge", x.merge(far), NO_SUCH);
            check.due("steal from a far store", x.steal(far, 0, 6), NO_SUCH);
            check.due("steal of a far secret", x.steal(0, far, 1), NO_SUCH);
            check.due("steal of a far version", x.steal(0, 0, far), NO_SUCH);
            check.due("pass", x.pass(far), BAD_VALUE);
        }
        check.due("the beats", x.count(0), 2);
    }
}
