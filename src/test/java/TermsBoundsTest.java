import java.util.function.IntUnaryOperator;
import java.util.function.ToIntFunction;

/** The boundary cases that the document names under "Terms", a test for each sentence; those of texts are in TextsBoundsTest. */
public final class TermsBoundsTest {
    private static final int NO_SUCH = SplitSecrets.NO_SUCH, BAD_VALUE = SplitSecrets.BAD_VALUE;
    private static final int TOO_MANY = SplitSecrets.TOO_MANY, NOT_POSSIBLE = SplitSecrets.NOT_POSSIBLE;
    private static final int NONE = SplitSecrets.NONE;
    private static final int OPEN = SplitSecrets.OPEN, EACH = SplitSecrets.EACH, OLD = SplitSecrets.OLD;
    private static final Check check = new Check("TermsBoundsTest");

    public static void main(String[] args) {
        errorsInOrder();
        noneIsNoError();
        numberedFromNought();
        setsAreBitMasks();
        storesAre0And1();
        theOtherStore();
        settingOpen();
        settingEach();
        settingOld();
        xIsLeftOverBy65537();
        xBy16IsRoundedDown();
        numbersAreLeftOverByWhatIsTold();
        upTo8Secrets();
        aSecretIs0To255();
        versionNowIs1AtFirst();
        partsAddedAreLeftOverBy256();
        factorsAndSumsHaveTheirEnds();
        tagsAreLeftOverBy257();
        drawsOfAVersionInTheirOrder();
        refreshAddsOneInBothStores();
        theOldLatestOnesAreKept();
        refreshOnlyIfNoStoreSleeps();
        burnBurnsThemAllInBothStores();
        toldPartIsLeftOverBy256();
        toldTagIsLeftOverBy257();
        offsetsAre0AtFirst();
        offsetsStayUntilToldAnew();
        offsetsStayBehindRefreshing();
        mergeTellsTheVersionNow();
        aLieIsCaughtByTheStore0First();
        toldPartsAddedAreLeftOverBy256();
        openForOpenBeats();
        nothingIsMergedIfALieIsCaught();
        noStoreMaySleep();
        stolenFromAStoreThatSleeps();
        stolenVersionsMustBeThere();
        knownByBothPartsOfOneVersion();
        whatThievesHaveTheyKeep();
        with0ItIsNotOpen();
        beatsAreCountedFrom0();
        eachDividesTheBeatsSoFar();
        refreshedByNumbers();
        notRefreshedIfAStoreSleeps();
        notRefreshedAbove999();
        check.end();
    }

    // ---- conventions

    private static void errorsInOrder() {
        check.says("it names its errors in the order in which they are checked, and the first one that applies is returned");
        SplitSecrets full = Made.withEightSecrets();
        full.sleep(0);
        check.due("keep(256), full and asleep", full.keep(256), BAD_VALUE);
        check.due("keep(255), full and asleep", full.keep(255), TOO_MANY);
        check.due("lie of no store, about too much", full.lie(2, 0, 256, 257), NO_SUCH);
        check.due("lie about no secret, about too much", full.lie(0, 8, 256, 257), NO_SUCH);
        check.due("lie about too much", full.lie(0, 7, 256, 0), BAD_VALUE);
        check.due("refresh(8), asleep", full.refresh(8), NO_SUCH);
        check.due("burn(8), asleep", full.burn(8), NO_SUCH);
        check.due("merge(8), asleep", full.merge(8), NO_SUCH);
        check.due("ifMerged(8), asleep", full.ifMerged(8), NO_SUCH);
        check.due("refresh(7), asleep", full.refresh(7), NOT_POSSIBLE);
        check.due("of(0, 8, 8)", full.of(0, 8, 8), NO_SUCH);
        check.due("of(2, 0, -1)", full.of(2, 0, -1), NO_SUCH);
        check.due("ofSecret(8, 8)", full.ofSecret(8, 8), NO_SUCH);
        check.due("old(8, 0, 4)", full.old(8, 0, 4), NO_SUCH);
        check.due("old(0, 0, 4)", full.old(0, 0, 4), NO_SUCH);
        check.due("otherwise(2, 0, 256)", full.otherwise(2, 0, 256), NO_SUCH);
        check.due("otherwise(0, 8, -1)", full.otherwise(0, 8, -1), NO_SUCH);
        check.due("passing(2, 0, 256)", full.passing(2, 0, 256), NO_SUCH);
        check.due("passing(0, 8, -1)", full.passing(0, 8, -1), NO_SUCH);
        check.due("passes(2, 0, 257)", full.passes(2, 0, 257), NO_SUCH);
        check.due("passes(0, 8, -1)", full.passes(0, 8, -1), NO_SUCH);
        check.due("restore(2)", full.restore(2), BAD_VALUE);
        SplitSecrets late = Made.withBeats(9999);
        check.due("pass(0) at the last beat", late.pass(0), BAD_VALUE);
        check.due("pass(100) at the last beat", late.pass(100), BAD_VALUE);
        check.due("pass(1) at the last beat", late.pass(1), NOT_POSSIBLE);
        SplitSecrets padded = Made.withPad("r0;".repeat(26) + "r0");
        check.due("put of a blank on a full pad", padded.put(' '), BAD_VALUE);
        check.due("put on a full pad", padded.put('k'), TOO_MANY);
    }

    private static void noneIsNoError() {
        check.says("NONE (-6) is not an error; it is returned only if no error applies");
        SplitSecrets x = new SplitSecrets();
        check.due("what is open of no secret", x.ofSecret(0, 2), NO_SUCH);
        check.due("the fault of an empty pad", x.fault(), 0);
        x.keep(4);
        check.due("what is open", x.ofSecret(0, 2), NONE);
        check.due("something else of it", x.ofSecret(0, 8), BAD_VALUE);
        Texts.put(x, "b1");
        check.due("the fault", x.fault(), NONE);
        check.due("the orders", x.carryOut(), 1);
    }

    private static void numberedFromNought() {
        check.says("Everything is numbered from 0.");
        SplitSecrets x = new SplitSecrets();
        check.due("the first secret", x.keep(9), 0);
        check.due("the second secret", x.keep(9), 1);
        x.refresh(0);
        check.due("the latest old version", x.old(0, 0, 0), 1);
        check.due("the first setting", x.set(0, 2), 1);
        check.due("the first slot", x.save(0), 2);
        Texts.put(x, "x");
        check.due("the first character", x.fault(), 0);
    }

    private static void setsAreBitMasks() {
        check.says("Sets of secrets are bit masks.");
        SplitSecrets x = Made.withEightSecrets();
        x.set(OPEN, 20);
        check.due("none is open", x.count(2), 0);
        check.due("none is known", x.count(3), 0);
        int open = 0;
        int known = 0;
        int[] order = {7, 0, 3, 6, 1, 5, 2, 4};
        for (int secret : order) {
            x.merge(secret);
            open |= 1 << secret;
            check.due("open ones", x.count(2), open);
            x.steal(0, 7 - secret, 1);
            check.due("known ones, by one part", x.count(3), known);
            x.steal(1, 7 - secret, 1);
            known |= 1 << 7 - secret;
            check.due("known ones", x.count(3), known);
        }
        check.due("all are open", x.count(2), 255);
        check.due("all are known", x.count(3), 255);
    }

    private static void storesAre0And1() {
        check.says("The stores are 0 and 1");
        SplitSecrets x = new SplitSecrets();
        x.keep(100);
        for (int store = 0; store <= 1; store++) {
            check.holds("sleep", x.sleep(store) == 1 && x.sleep(store) == 0);
            check.due("lie", x.lie(store, 0, 0, 0), 0);
            check.holds("steal", x.steal(store, 0, 1) >= 0);
            check.holds("of", x.of(store, 0, 0) >= 0);
            check.holds("otherwise", x.otherwise(store, 0, 0) >= 0);
            check.holds("passing", x.passing(store, 0, 1) >= 0);
            check.holds("passes", x.passes(store, 0, 1) >= 0);
        }
        int[] none = {-1, 2, Integer.MIN_VALUE, Integer.MAX_VALUE};
        for (int store : none) {
            check.due("sleep", x.sleep(store), NO_SUCH);
            check.due("lie", x.lie(store, 0, 0, 0), NO_SUCH);
            check.due("steal", x.steal(store, 0, 1), NO_SUCH);
            check.due("of", x.of(store, 0, 0), NO_SUCH);
            check.due("otherwise", x.otherwise(store, 0, 0), NO_SUCH);
            check.due("passing", x.passing(store, 0, 1), NO_SUCH);
            check.due("passes", x.passes(store, 0, 1), NO_SUCH);
        }
    }

    private static void theOtherStore() {
        check.says("the other store of 0 is 1, and of 1 is 0");
        SplitSecrets x = new SplitSecrets();
        x.keep(100);
        check.due("the other part of that of 0", x.otherwise(0, 0, 100), x.of(1, 0, 0));
        check.due("the other part of that of 1", x.otherwise(1, 0, 100), x.of(0, 0, 0));
        check.due("the store 1 checks the part of 0", dueTag(x, 1, x.of(0, 0, 0)), x.of(0, 0, 1));
        check.due("the store 0 checks the part of 1", dueTag(x, 0, x.of(1, 0, 0)), x.of(1, 0, 1));
    }

    private static int dueTag(SplitSecrets x, int checking, int part) {
        return (x.of(checking, 0, 2) * part + x.of(checking, 0, 3)) % 257;
    }

    // ---- settings

    private static void range(int setting, int least, int most, int first) {
        SplitSecrets x = new SplitSecrets();
        check.due("the first value", x.count(11 + setting), first);
        check.due("one too small", x.set(setting, least - 1), BAD_VALUE);
        check.due("one too great", x.set(setting, most + 1), BAD_VALUE);
        check.due("the value behind errors", x.count(11 + setting), first);
        int previous = first;
        for (int value = least; value <= most; value++) {
            check.due("set to " + value, x.set(setting, value), previous);
            check.due("the value", x.count(11 + setting), value);
            previous = value;
        }
        for (int other = 0; other < 3; other++) {
            int[] firsts = {1, 0, 2};
            check.due("another setting", x.count(11 + other), other == setting ? most : firsts[other]);
        }
    }

    private static void settingOpen() {
        check.says("OPEN (1 to 20; 1)");
        range(OPEN, 1, 20, 1);
    }

    private static void settingEach() {
        check.says("EACH (0 to 99; 0): beats behind which all secrets are refreshed (0: never)");
        range(EACH, 0, 99, 0);
        SplitSecrets x = new SplitSecrets();
        x.keep(1);
        check.due("never, at first", x.pass(99), 0);
        x.set(EACH, 5);
        x.set(EACH, 0);
        check.due("never", x.pass(99), 0);
        check.due("the version", x.ofSecret(0, 0), 1);
    }

    private static void settingOld() {
        check.says("OLD (0 to 4; 2): old versions of a secret that are kept");
        range(OLD, 0, 4, 2);
    }

    // ---- draws, secrets, parts

    /** The part of the store 0 that is the first number drawn behind a seed. */
    private static int firstPart(int seed) {
        SplitSecrets x = new SplitSecrets();
        x.seed(seed);
        x.keep(0);
        return x.of(0, 0, 0);
    }

    private static void xIsLeftOverBy65537() {
        check.says("x (1 at first) becomes (75 * x + 74) left over by 65537");
        check.due("x at first", new SplitSecrets().count(10), 1);
        // 75 * 872 + 74 is 65474; 75 * 873 + 74 is 65549, which is 12 more than 65537.
        check.due("the last x below 65537", firstPart(872), 65474 / 16 % 256);
        check.due("the first x above 65537", firstPart(873), 0);
        check.due("by the greatest seed", firstPart(9999), (75 * 9999 + 74) % 65537 / 16 % 256);
        for (int seed = 0; seed < 10000; seed += 101) {
            SplitSecrets x = new SplitSecrets();
            Draws draws = new Draws(seed);
            x.seed(seed);
            for (int secret = 0; secret < 8; secret++) {
                x.keep(255);
                draws.version(255);
                check.due("x behind the secret " + secret + " and the seed " + seed, x.count(10), draws.x);
            }
        }
    }

    private static void xBy16IsRoundedDown() {
        check.says("the number is x / 16 (rounded down)");
        // 75 * 15 + 74 is 1199, 15 more than 74 * 16; 75 * 18 + 74 is 1424, which is 89 * 16.
        check.due("15 above a multiple of 16", firstPart(15), 74);
        check.due("a multiple of 16", firstPart(18), 89);
    }

    private static void numbersAreLeftOverByWhatIsTold() {
        check.says("left over by as many as are told");
        // 75 * 163 + 74 is 12299, and by 16 it is 768, three times 256.
        check.due("a multiple of 256", firstPart(163), 0);
        int seed = seedWith(version -> version[0] == 255 ? 1 : 0);
        check.due("the greatest below 256", firstPart(seed), 255);
    }

    private static void upTo8Secrets() {
        check.says("There are up to 8 secrets, numbered in the order in which they came");
        SplitSecrets x = new SplitSecrets();
        for (int number = 0; number < 8; number++) {
            check.due("secrets", x.count(1), number);
            check.due("one that is not there", x.ofSecret(number, 0), NO_SUCH);
            check.due("keep", x.keep(11 * number), number);
        }
        check.due("a ninth", x.keep(0), TOO_MANY);
        check.due("secrets", x.count(1), 8);
        check.due("no ninth", x.ofSecret(8, 0), NO_SUCH);
        for (int number = 0; number < 8; number++) {
            check.due("the secret " + number, x.ifMerged(number), 11 * number);
        }
    }

    private static void aSecretIs0To255() {
        check.says("each is a number 0 to 255");
        SplitSecrets x = new SplitSecrets();
        check.due("keep(-1)", x.keep(-1), BAD_VALUE);
        check.due("keep(256)", x.keep(256), BAD_VALUE);
        check.due("keep(0)", x.keep(0), 0);
        check.due("keep(255)", x.keep(255), 1);
        check.due("the least", x.merge(0), 0);
        check.due("the greatest", x.merge(1), 255);
    }

    private static void versionNowIs1AtFirst() {
        check.says("Of each one there is a version now (1 at first), and perhaps old versions.");
        SplitSecrets x = Made.withEightSecrets();
        x.refresh(3);
        for (int secret = 0; secret < 8; secret++) {
            check.due("the version", x.ofSecret(secret, 0), secret == 3 ? 2 : 1);
            check.due("old versions", x.ofSecret(secret, 1), secret == 3 ? 1 : 0);
            check.due("an old version", x.old(secret, 0, 0), secret == 3 ? 1 : NO_SUCH);
        }
    }

    private static void partsAddedAreLeftOverBy256() {
        check.says("that of the store 1 is then the secret less it, left over by 256 (0 to 255)");
        int[] seeds = {0, 1, 872, 873, 9999, seedWith(version -> version[0] == 0 ? 1 : 0), seedWith(version -> version[0] == 255 ? 1 : 0)};
        for (int seed : seeds) {
            int part = new Draws(seed).next(256);
            for (int more = -1; more <= 1; more++) {
                SplitSecrets x = new SplitSecrets();
                x.seed(seed);
                int secret = part + more & 255;
                x.keep(secret);
                check.due("the part of the store 0", x.of(0, 0, 0), part);
                check.due("that of the store 1, of a secret that is " + more + " more", x.of(1, 0, 0), more & 255);
                check.due("both added", (x.of(0, 0, 0) + x.of(1, 0, 0)) % 256, secret);
            }
        }
    }

    /** The least seed behind which the first version (of the secret 77) is as it is asked; see Draws.version for its row. */
    private static int seedWith(ToIntFunction<int[]> asked) {
        for (int seed = 0; seed < 10000; seed++) {
            if (asked.applyAsInt(new Draws(seed).version(77)) == 1) {
                return seed;
            }
        }
        check.holds("there is such a seed", false);
        return 0;
    }

    /** Looks for a seed that brings a figure to an end of its range, and asks the program for it. */
    private static void end(int store, int what, int end) {
        int column = 2 * what + store;
        int seed = seedWith(version -> version[column] == end ? 1 : 0);
        SplitSecrets x = new SplitSecrets();
        x.seed(seed);
        x.keep(77);
        check.due("of(" + store + ", 0, " + what + ") with the seed " + seed, x.of(store, 0, what), end);
    }

    private static void factorsAndSumsHaveTheirEnds() {
        check.says("its f is drawn, out of 256, and 1 more, its s out of 257");
        for (int store = 0; store < 2; store++) {
            end(store, 2, 1);
            end(store, 2, 256);
            end(store, 3, 0);
            end(store, 3, 256);
        }
    }

    private static void tagsAreLeftOverBy257() {
        check.says("a tag: (f * the part + s) left over by 257");
        for (int store = 0; store < 2; store++) {
            end(store, 1, 0);
            end(store, 1, 256);
            // A part that is 0 leaves the sum alone, up to 256; with a factor of 256 the product is greatest.
            int own = store;
            int sumColumn = 7 - store;
            int seed = seedWith(version -> version[own] == 0 ? 1 : 0);
            int[] version = new Draws(seed).version(77);
            SplitSecrets x = new SplitSecrets();
            x.seed(seed);
            x.keep(77);
            check.due("the tag of the part 0", x.of(store, 0, 1), version[sumColumn]);
            check.due("that sum", x.of(1 - store, 0, 3), version[sumColumn]);
        }
    }

    private static void drawsOfAVersionInTheirOrder() {
        check.says("Then for the part of the store 0 its f is drawn, out of 256, and 1 more, its s out of 257; then likewise for the part of the store 1.");
        Draws draws = new Draws(1);
        SplitSecrets x = new SplitSecrets();
        x.keep(200);
        check.due("the part of the store 0", x.of(0, 0, 0), draws.next(256));
        check.due("f for it, in the store 1", x.of(1, 0, 2), draws.next(256) + 1);
        check.due("s for it, in the store 1", x.of(1, 0, 3), draws.next(257));
        check.due("f for the part of the store 1, in the store 0", x.of(0, 0, 2), draws.next(256) + 1);
        check.due("s for the part of the store 1, in the store 0", x.of(0, 0, 3), draws.next(257));
        check.due("no more are drawn", x.count(10), draws.x);
    }

    // ---- refreshing, burning

    private static void refreshAddsOneInBothStores() {
        check.says("To refresh a secret is to make a version of it, whose number is 1 more, in both stores at once; the one that was is an old version then");
        SplitSecrets x = new SplitSecrets();
        Draws draws = new Draws(1);
        x.keep(201);
        int[] before = draws.version(201);
        int[] then = draws.version(201);
        check.due("refresh", x.refresh(0), 2);
        for (int store = 0; store < 2; store++) {
            check.due("the part now", x.of(store, 0, 0), then[store]);
            check.due("the old part", x.old(0, 0, 1 + store), before[store]);
            check.due("the part stolen", x.steal(store, 0, 2), then[store]);
            check.due("the old part stolen", x.steal(store, 0, 1), before[store]);
        }
        check.due("its number", x.old(0, 0, 0), 1);
        check.due("the secret", x.merge(0), 201);
    }

    private static void theOldLatestOnesAreKept() {
        check.says("of these the OLD latest ones are kept, in both stores; others are burnt");
        for (int old = 0; old <= 4; old++) {
            SplitSecrets x = new SplitSecrets();
            x.set(OLD, old);
            x.keep(3);
            for (int version = 2; version <= old + 1; version++) {
                x.refresh(0);
            }
            check.due("all are kept, with OLD " + old, x.ofSecret(0, 1), old);
            check.due("none is burnt", x.count(7), 0);
            x.refresh(0);
            check.due("the OLD latest", x.ofSecret(0, 1), old);
            check.due("one is burnt", x.count(7), 1);
            for (int store = 0; store < 2; store++) {
                check.due("the burnt one", x.steal(store, 0, 1), NO_SUCH);
                check.holds("the oldest one that is there", x.steal(store, 0, 2) >= 0);
            }
            check.due("no rank beyond", x.old(0, old, 0), NO_SUCH);
            if (old > 0) {
                check.due("the oldest one", x.old(0, old - 1, 0), 2);
                check.due("the latest one", x.old(0, 0, 0), old + 1);
            }
        }
    }

    private static void refreshOnlyIfNoStoreSleeps() {
        check.says("It can be done only if no store sleeps.");
        eachMixOfSleep(x -> x.refresh(0), 2);
    }

    /** The call is possible if both are awake alone; its answer is due then. */
    private static void eachMixOfSleep(ToIntFunction<SplitSecrets> call, int due) {
        for (int mix = 0; mix < 4; mix++) {
            SplitSecrets x = new SplitSecrets();
            x.keep(5);
            for (int store = 0; store < 2; store++) {
                if ((mix >> store & 1) == 1) {
                    x.sleep(store);
                }
            }
            check.due("asleep " + mix, call.applyAsInt(x), mix == 0 ? due : NOT_POSSIBLE);
            for (int store = 0; store < 2; store++) {
                if ((mix >> store & 1) == 1) {
                    x.sleep(store);
                }
            }
            if (mix > 0) {
                check.due("awake again", call.applyAsInt(x), due);
            }
        }
    }

    private static void burnBurnsThemAllInBothStores() {
        check.says("To burn a secret's old versions is to burn them all, in both stores.");
        for (int olds = 0; olds <= 4; olds++) {
            SplitSecrets x = new SplitSecrets();
            x.set(OLD, 4);
            x.keep(3);
            x.keep(4);
            x.refresh(1);
            for (int i = 0; i < olds; i++) {
                x.refresh(0);
            }
            check.due("burn", x.burn(0), olds);
            check.due("old versions", x.ofSecret(0, 1), 0);
            check.due("burnt", x.count(7), olds);
            for (int version = 1; version <= olds; version++) {
                check.due("stolen from 0", x.steal(0, 0, version), NO_SUCH);
                check.due("stolen from 1", x.steal(1, 0, version), NO_SUCH);
            }
            check.due("the version now", x.ofSecret(0, 0), olds + 1);
            check.due("the secret", x.merge(0), 3);
            check.due("old versions of the other one", x.ofSecret(1, 1), 1);
            check.due("burn again", x.burn(0), 0);
            x.refresh(0);
            check.due("an old one again", x.old(0, 0, 0), olds + 1);
            check.due("it alone", x.ofSecret(0, 1), 1);
        }
    }

    // ---- lies, mergers

    private static void toldPartIsLeftOverBy256() {
        check.says("it tells its part and an offset (0 to 255), left over by 256");
        SplitSecrets x = new SplitSecrets();
        x.keep(200);
        for (int store = 0; store < 2; store++) {
            int part = x.of(store, 0, 0);
            check.due("without a lie", x.of(store, 0, 6), part);
            x.lie(store, 0, 255 - part, 0);
            check.due("the greatest", x.of(store, 0, 6), 255);
            x.lie(store, 0, 256 - part, 0);
            check.due("the wrap-around", x.of(store, 0, 6), 0);
            x.lie(store, 0, 255, 0);
            check.due("the greatest offset", x.of(store, 0, 6), part - 1);
            check.due("its part stays", x.of(store, 0, 0), part);
        }
    }

    private static void toldTagIsLeftOverBy257() {
        check.says("its tag and a tag's offset (0 to 256), left over by 257");
        SplitSecrets x = new SplitSecrets();
        x.keep(200);
        for (int store = 0; store < 2; store++) {
            int tag = x.of(store, 0, 1);
            check.due("without a lie", x.of(store, 0, 7), tag);
            x.lie(store, 0, 0, 256 - tag);
            check.due("the greatest", x.of(store, 0, 7), 256);
            x.lie(store, 0, 0, 257 - tag);
            check.due("the wrap-around", x.of(store, 0, 7), 0);
            x.lie(store, 0, 0, 256);
            check.due("the greatest offset", x.of(store, 0, 7), tag - 1);
            check.due("its tag stays", x.of(store, 0, 1), tag);
        }
    }

    private static void offsetsAre0AtFirst() {
        check.says("both offsets are 0 at first");
        SplitSecrets x = new SplitSecrets();
        x.keep(1);
        x.lie(0, 0, 7, 8);
        x.lie(1, 0, 9, 10);
        x.undo();
        x.undo();
        x.undo();
        x.keep(2);
        x.keep(3);
        for (int secret = 0; secret < 2; secret++) {
            for (int store = 0; store < 2; store++) {
                check.due("the offset", x.of(store, secret, 4), 0);
                check.due("the tag's offset", x.of(store, secret, 5), 0);
            }
        }
    }

    private static void offsetsStayUntilToldAnew() {
        check.says("and stay until they are told anew");
        SplitSecrets x = new SplitSecrets();
        x.keep(1);
        x.lie(0, 0, 255, 256);
        x.merge(0);
        x.sleep(0);
        x.pass(50);
        x.sleep(0);
        check.due("the offset", x.of(0, 0, 4), 255);
        check.due("the tag's offset", x.of(0, 0, 5), 256);
        x.lie(0, 0, 0, 3);
        check.due("the offset, told anew", x.of(0, 0, 4), 0);
        check.due("the tag's offset, told anew", x.of(0, 0, 5), 3);
        x.lie(0, 0, 2, 0);
        check.due("the offset, told anew", x.of(0, 0, 4), 2);
        check.due("the tag's offset, told anew", x.of(0, 0, 5), 0);
    }

    private static void offsetsStayBehindRefreshing() {
        check.says("(also behind refreshing)");
        SplitSecrets x = new SplitSecrets();
        x.keep(1);
        x.lie(0, 0, 255, 256);
        x.lie(1, 0, 1, 2);
        x.refresh(0);
        x.set(EACH, 1);
        x.pass(9);
        check.due("the version", x.ofSecret(0, 0), 11);
        int[] due = {255, 256, 1, 2};
        for (int store = 0; store < 2; store++) {
            check.due("the offset", x.of(store, 0, 4), due[2 * store]);
            check.due("the tag's offset", x.of(store, 0, 5), due[2 * store + 1]);
            check.due("the told part", x.of(store, 0, 6), (x.of(store, 0, 0) + due[2 * store]) % 256);
            check.due("the told tag", x.of(store, 0, 7), (x.of(store, 0, 1) + due[2 * store + 1]) % 257);
        }
    }

    private static void mergeTellsTheVersionNow() {
        check.says("To merge a secret both stores tell their parts and tags of the version now");
        SplitSecrets x = new SplitSecrets();
        x.keep(90);
        x.lie(0, 0, 10, x.passing(0, 0, 10));
        check.due("a lie that passes", x.merge(0), 100);
        int tag = x.of(0, 0, 5);
        x.refresh(0);
        boolean stillPasses = x.passing(0, 0, 10) == tag;
        check.holds("the tag's offset that passes is another one", !stillPasses);
        check.due("the same lie about the next version", x.merge(0), 1001);
        x.lie(0, 0, 10, x.passing(0, 0, 10));
        check.due("one that passes for it", x.merge(0), 100);
    }

    private static void aLieIsCaughtByTheStore0First() {
        check.says("the lie is caught, by the store 0 first (then the store 1 does not look any more)");
        SplitSecrets x = new SplitSecrets();
        x.keep(50);
        x.lie(0, 0, 1, 0);
        check.due("a lie of the store 0", x.merge(0), 1001);
        x.lie(1, 0, 1, 0);
        check.due("lies of both", x.merge(0), 1000);
        check.due("the second one is not counted", x.ofSecret(0, 4), 2);
        check.due("nor in all", x.count(8), 2);
        x.lie(0, 0, 0, 0);
        check.due("a lie of the store 1", x.merge(0), 1000);
        x.lie(1, 0, 1, x.passing(1, 0, 1));
        x.lie(0, 0, 1, 0);
        check.due("a lie that passes, and one that the store 1 catches", x.merge(0), 1001);
        check.due("none passed", x.count(9), 0);
        check.due("caught", x.count(8), 4);
    }

    private static void toldPartsAddedAreLeftOverBy256() {
        check.says("as the told parts added, left over by 256");
        int[][] rows = {{255, 0, 255}, {255, 1, 0}, {0, 255, 255}, {254, 1, 255}, {0, 0, 0}, {1, 255, 0}};
        for (int[] row : rows) {
            for (int store = 0; store < 2; store++) {
                SplitSecrets x = new SplitSecrets();
                x.keep(row[0]);
                x.lie(store, 0, row[1], x.passing(store, 0, row[1]));
                check.due(row[0] + " and " + row[1], x.merge(0), row[2]);
                check.due("what is open", x.ofSecret(0, 2), row[2]);
            }
        }
        SplitSecrets x = new SplitSecrets();
        x.keep(255);
        x.lie(0, 0, 255, x.passing(0, 0, 255));
        x.lie(1, 0, 255, x.passing(1, 0, 255));
        check.due("255 and 255 and 255", x.merge(0), 253);
    }

    private static void openForOpenBeats() {
        check.says("for OPEN beats");
        for (int open = 1; open <= 20; open++) {
            SplitSecrets x = new SplitSecrets();
            x.keep(0);
            x.set(OPEN, open);
            x.merge(0);
            for (int left = open; left > 0; left--) {
                check.due("open for", x.ofSecret(0, 3), left);
                check.due("open as", x.ofSecret(0, 2), 0);
                check.due("open ones", x.count(2), 1);
                x.pass(1);
            }
            check.due("open for no more", x.ofSecret(0, 3), 0);
            check.due("not open", x.ofSecret(0, 2), NONE);
            check.due("open ones", x.count(2), 0);
        }
    }

    private static void nothingIsMergedIfALieIsCaught() {
        check.says("If one finds that it is not, nothing is merged, and the lie is caught");
        SplitSecrets x = new SplitSecrets();
        x.keep(60);
        x.lie(1, 0, 0, 256);
        check.due("merge", x.merge(0), 1000);
        check.due("not open", x.ofSecret(0, 2), NONE);
        check.due("for no beats", x.ofSecret(0, 3), 0);
        check.due("never opened", x.ofSecret(0, 7), 0);
        check.due("caught", x.ofSecret(0, 4), 1);
        x.lie(1, 0, 0, 0);
        check.due("merge", x.merge(0), 60);
        check.due("opened", x.ofSecret(0, 7), 1);
        check.due("caught", x.ofSecret(0, 4), 1);
    }

    private static void noStoreMaySleep() {
        check.says("No store may sleep.");
        eachMixOfSleep(x -> x.merge(0), 5);
        eachMixOfSleep(x -> x.ifMerged(0), 5);
    }

    // ---- thieves

    private static void stolenFromAStoreThatSleeps() {
        check.says("(of a store that sleeps, too)");
        for (int store = 0; store < 2; store++) {
            SplitSecrets x = new SplitSecrets();
            x.keep(8);
            x.sleep(0);
            x.sleep(1);
            check.due("the part", x.steal(store, 0, 1), x.of(store, 0, 0));
            check.due("parts", x.ofSecret(0, 6), 1);
            check.due("the store still sleeps", x.count(4 + store), 1);
        }
    }

    private static void stolenVersionsMustBeThere() {
        check.says("A thief takes a copy of a part, of a store and a version that is there");
        SplitSecrets x = Made.withVersion(999);
        // The versions 998 and 997 are kept.
        check.due("above the version now", x.steal(0, 0, 1000), NO_SUCH);
        check.holds("the version now", x.steal(0, 0, 999) >= 0);
        check.due("the latest old one", x.steal(0, 0, 998), x.old(0, 0, 1));
        check.due("the oldest one", x.steal(1, 0, 997), x.old(0, 1, 2));
        check.due("the latest burnt one", x.steal(1, 0, 996), NO_SUCH);
        check.due("the first one", x.steal(1, 0, 1), NO_SUCH);
        check.due("none", x.steal(1, 0, 0), NO_SUCH);
        check.due("below", x.steal(1, 0, -1), NO_SUCH);
        check.due("parts", x.ofSecret(0, 6), 3);
        check.due("it is a copy", x.steal(0, 0, 999), x.of(0, 0, 0));
    }

    private static void knownByBothPartsOfOneVersion() {
        check.says("A secret is known to thieves if they have both parts of one of its versions.");
        SplitSecrets x = new SplitSecrets();
        x.set(OLD, 4);
        x.keep(30);
        for (int version = 2; version <= 5; version++) {
            x.refresh(0);
        }
        for (int version = 1; version <= 5; version++) {
            x.steal(version % 2, 0, version);
            check.due("known by one part of each", x.ofSecret(0, 5), 0);
            check.due("as a set", x.count(3), 0);
        }
        x.steal(1, 0, 3);
        check.due("known by the same part twice", x.ofSecret(0, 5), 0);
        for (int version = 1; version <= 5; version++) {
            x.steal(1 - version % 2, 0, version);
            check.due("known by both of " + version, x.ofSecret(0, 5), 1);
            check.due("as a set", x.count(3), 1);
            x.undo();
            check.due("undone", x.ofSecret(0, 5), 0);
        }
    }

    private static void whatThievesHaveTheyKeep() {
        check.says("What they have they keep, also when it is burnt.");
        SplitSecrets x = new SplitSecrets();
        x.set(OLD, 0);
        x.keep(30);
        x.steal(0, 0, 1);
        x.steal(1, 0, 1);
        x.refresh(0);
        check.due("burnt by refreshing", x.count(7), 1);
        check.due("known", x.ofSecret(0, 5), 1);
        check.due("parts", x.ofSecret(0, 6), 2);
        x.steal(0, 0, 2);
        x.set(OLD, 1);
        x.refresh(0);
        x.burn(0);
        check.due("burnt", x.count(7), 2);
        check.due("parts, counted", x.ofSecret(0, 6), 3);
        check.due("parts of the version now", x.atRisk(0), 0);
        check.due("known", x.count(3), 1);
    }

    // ---- beats

    private static void with0ItIsNotOpen() {
        check.says("each open secret is open for one beat less (with 0 it is not open)");
        SplitSecrets x = new SplitSecrets();
        x.keep(1);
        x.keep(2);
        x.keep(3);
        x.merge(0);
        x.set(OPEN, 2);
        x.merge(1);
        x.pass(1);
        check.due("open ones behind a beat", x.count(2), 2);
        check.due("beats of the first", x.ofSecret(0, 3), 0);
        check.due("beats of the second", x.ofSecret(1, 3), 1);
        check.due("beats of the third, never open", x.ofSecret(2, 3), 0);
        x.pass(1);
        check.due("open ones behind two", x.count(2), 0);
        x.pass(99);
        for (int secret = 0; secret < 3; secret++) {
            check.due("beats", x.ofSecret(secret, 3), 0);
        }
        check.due("opened so far stays", x.ofSecret(1, 7), 1);
    }

    private static void beatsAreCountedFrom0() {
        check.says("Then the beat is counted (0 at first)");
        SplitSecrets x = new SplitSecrets();
        check.due("at first", x.count(0), 0);
        x.pass(1);
        check.due("then", x.count(0), 1);
        x.pass(99);
        check.due("then", x.count(0), 100);
        check.due("the last one", Made.withBeats(9999).count(0), 9999);
    }

    /** How many versions are made in each of some beats, a call for each. */
    private static void dueMade(SplitSecrets x, int beats, IntUnaryOperator due) {
        for (int i = 0; i < beats; i++) {
            int beat = x.count(0) + 1;
            check.due("versions made in the beat " + beat, x.pass(1), due.applyAsInt(beat));
        }
    }

    private static void eachDividesTheBeatsSoFar() {
        check.says("if EACH is above 0 and the beats so far can be divided by it, all secrets are refreshed");
        SplitSecrets x = new SplitSecrets();
        x.keep(1);
        x.keep(2);
        x.set(EACH, 99);
        dueMade(x, 101, beat -> beat == 99 ? 2 : 0);
        check.due("up to 197", x.pass(96), 0);
        check.due("198", x.pass(1), 2);
        x.set(EACH, 1);
        dueMade(x, 3, beat -> 2);
        // 202 to 204: by the beats so far, not by those since it was set.
        x.set(EACH, 4);
        dueMade(x, 9, beat -> beat % 4 == 0 ? 2 : 0);
        check.due("by 4 up to 250", x.pass(40), 20);
        check.due("each of 99 beats", afterSet(1).pass(99), 99);
        check.due("the last of 99 beats", afterSet(99).pass(99), 1);
        check.due("not in 98 beats", afterSet(99).pass(98), 0);
        check.due("no secret", noSecret().pass(99), 0);
    }

    private static SplitSecrets afterSet(int each) {
        SplitSecrets x = new SplitSecrets();
        x.keep(1);
        x.set(EACH, each);
        return x;
    }

    private static SplitSecrets noSecret() {
        SplitSecrets x = new SplitSecrets();
        x.set(EACH, 1);
        return x;
    }

    private static void refreshedByNumbers() {
        check.says("all secrets are refreshed, by numbers");
        SplitSecrets x = Made.withEightSecrets();
        Draws draws = new Draws(x.count(10));
        x.set(EACH, 1);
        check.due("versions made", x.pass(2), 16);
        for (int secret = 0; secret < 8; secret++) {
            int[] old = draws.version(secret);
            check.due("the old part of 0", x.old(secret, 0, 1), old[0]);
            check.due("the old part of 1", x.old(secret, 0, 2), old[1]);
        }
        for (int secret = 0; secret < 8; secret++) {
            int[] now = draws.version(secret);
            check.due("the part of 0", x.of(0, secret, 0), now[0]);
            check.due("the tag of 1", x.of(1, secret, 1), now[3]);
        }
        check.due("x", x.count(10), draws.x);
    }

    private static void notRefreshedIfAStoreSleeps() {
        check.says("if no store sleeps");
        for (int mix = 0; mix < 4; mix++) {
            SplitSecrets x = afterSet(1);
            for (int store = 0; store < 2; store++) {
                if ((mix >> store & 1) == 1) {
                    x.sleep(store);
                }
            }
            int before = x.count(10);
            check.due("asleep " + mix, x.pass(3), mix == 0 ? 3 : 0);
            check.due("beats", x.count(0), 3);
            check.holds("x stays, if one sleeps", mix == 0 || x.count(10) == before);
        }
    }

    private static void notRefreshedAbove999() {
        check.says("(but those whose version would be above 999)");
        SplitSecrets x = Made.withVersion(998);
        x.keep(5);
        x.set(EACH, 1);
        check.due("998 becomes 999", x.pass(1), 2);
        check.due("its version", x.ofSecret(0, 0), 999);
        Draws draws = new Draws(x.count(10));
        int part = x.of(0, 0, 0);
        check.due("999 stays, the other is refreshed", x.pass(1), 1);
        check.due("its version", x.ofSecret(0, 0), 999);
        check.due("its part", x.of(0, 0, 0), part);
        check.due("the other's version", x.ofSecret(1, 0), 3);
        check.due("the other's part, drawn first", x.of(0, 1, 0), draws.version(5)[0]);
        check.due("x", x.count(10), draws.x);
        check.due("in many beats", x.pass(99), 99);
        check.due("its version", x.ofSecret(0, 0), 999);
    }
}
