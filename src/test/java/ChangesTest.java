/** Promises 1 to 11: a new object, and the calls that change something. */
public final class ChangesTest {
    private static final int NO_SUCH = SplitSecrets.NO_SUCH, BAD_VALUE = SplitSecrets.BAD_VALUE;
    private static final int TOO_MANY = SplitSecrets.TOO_MANY, NOT_POSSIBLE = SplitSecrets.NOT_POSSIBLE;
    private static final int NONE = SplitSecrets.NONE;
    private static final Check check = new Check("ChangesTest");

    public static void main(String[] args) {
        newObject();
        set();
        setOldBurnsOnlyBehindARefresh();
        seed();
        keep();
        keepTellsItsErrorsInOrder();
        refresh();
        refreshUpToTheLastVersion();
        refreshKeepsOldVersions();
        burn();
        sleep();
        lie();
        merge();
        mergeCatches();
        mergeLetsALiePass();
        mergeOpensAnew();
        steal();
        pass();
        passRefreshes();
        passLeavesOutTheLastVersion();
        passUpToTheLastBeat();
        check.end();
    }

    private static void newObject() {
        SplitSecrets x = new SplitSecrets();
        int[] firsts = {0, 0, 0, 0, 0, 0, 0, 0, 0, 0, 1, 1, 0, 2, 0, 0};
        for (int what = 0; what < firsts.length; what++) {
            check.due("new, count(" + what + ")", x.count(what), firsts[what]);
        }
        check.due("new, ofSecret(0, 0)", x.ofSecret(0, 0), NO_SUCH);
        check.due("new, fault()", x.fault(), 0);
        check.due("new, undo()", x.undo(), NOT_POSSIBLE);
        check.due("new, restore(0)", x.restore(0), NOT_POSSIBLE);
        check.due("new, restore(1)", x.restore(1), NOT_POSSIBLE);
    }

    private static void set() {
        SplitSecrets x = new SplitSecrets();
        int[] least = {1, 0, 0};
        int[] most = {20, 99, 4};
        int[] first = {1, 0, 2};
        for (int setting = 0; setting < 3; setting++) {
            check.due("set below its range", x.set(setting, least[setting] - 1), BAD_VALUE);
            check.due("set above its range", x.set(setting, most[setting] + 1), BAD_VALUE);
            check.due("a refused set", x.count(11 + setting), first[setting]);
            check.due("set to its most", x.set(setting, most[setting]), first[setting]);
            check.due("set to its least", x.set(setting, least[setting]), most[setting]);
            check.due("the setting then", x.count(11 + setting), least[setting]);
        }
        check.due("set(-1, 1)", x.set(-1, 1), BAD_VALUE);
        check.due("set(3, 1)", x.set(3, 1), BAD_VALUE);
        check.due("set(MIN, 1)", x.set(Integer.MIN_VALUE, 1), BAD_VALUE);
        check.due("changes", x.count(15), 6);
    }

    private static void setOldBurnsOnlyBehindARefresh() {
        SplitSecrets x = new SplitSecrets();
        x.set(SplitSecrets.OLD, 4);
        x.keep(9);
        x.keep(10);
        for (int i = 0; i < 5; i++) {
            x.refresh(0);
            x.refresh(1);
        }
        check.due("burnt", x.count(7), 2);
        x.set(SplitSecrets.OLD, 1);
        check.due("old versions behind set", x.ofSecret(0, 1), 4);
        check.due("burnt behind set", x.count(7), 2);
        x.refresh(1);
        check.due("old versions of the other secret", x.ofSecret(0, 1), 4);
        check.due("old versions behind refresh", x.ofSecret(1, 1), 1);
        check.due("burnt behind refresh", x.count(7), 6);
        x.set(SplitSecrets.OLD, 4);
        x.refresh(1);
        check.due("old versions with more room", x.ofSecret(1, 1), 2);
    }

    private static void seed() {
        SplitSecrets x = new SplitSecrets();
        check.due("seed(-1)", x.seed(-1), BAD_VALUE);
        check.due("seed(10000)", x.seed(10000), BAD_VALUE);
        check.due("x", x.count(10), 1);
        check.due("seed(9999)", x.seed(9999), 1);
        check.due("seed(0)", x.seed(0), 9999);
        Draws draws = new Draws(0);
        int[] version = draws.version(77);
        x.keep(77);
        check.due("part behind a seed", x.of(0, 0, 0), version[0]);
        check.due("x behind draws", x.count(10), draws.x);
        check.due("seed tells x", x.seed(5), draws.x);
    }

    private static void keep() {
        SplitSecrets x = new SplitSecrets();
        Draws draws = new Draws(1);
        for (int number = 0; number < 8; number++) {
            int secret = number == 0 ? 0 : number == 1 ? 255 : 31 * number;
            check.due("keep", x.keep(secret), number);
            dueVersion(x, number, draws.version(secret));
            check.due("its version", x.ofSecret(number, 0), 1);
            check.due("its old ones", x.ofSecret(number, 1), 0);
            check.due("its parts, added", (x.of(0, number, 0) + x.of(1, number, 0)) % 256, secret);
        }
        check.due("secrets", x.count(1), 8);
        check.due("versions made", x.count(6), 8);
        check.due("x", x.count(10), draws.x);
    }

    private static void dueVersion(SplitSecrets x, int secret, int[] version) {
        for (int store = 0; store < 2; store++) {
            for (int what = 0; what < 4; what++) {
                check.due("of(" + store + ", " + secret + ", " + what + ")", x.of(store, secret, what), version[2 * what + store]);
            }
        }
    }

    private static void keepTellsItsErrorsInOrder() {
        SplitSecrets x = new SplitSecrets();
        check.due("keep(-1)", x.keep(-1), BAD_VALUE);
        check.due("keep(256)", x.keep(256), BAD_VALUE);
        x.sleep(1);
        check.due("keep(256), asleep", x.keep(256), BAD_VALUE);
        check.due("keep(1), store 1 asleep", x.keep(1), NOT_POSSIBLE);
        x.sleep(1);
        x.sleep(0);
        check.due("keep(1), store 0 asleep", x.keep(1), NOT_POSSIBLE);
        x.sleep(0);
        for (int i = 0; i < 8; i++) {
            x.keep(i);
        }
        x.sleep(0);
        check.due("keep(256) as the 9th", x.keep(256), BAD_VALUE);
        check.due("keep(1) as the 9th, asleep", x.keep(1), TOO_MANY);
        check.due("secrets", x.count(1), 8);
    }

    private static void refresh() {
        SplitSecrets x = new SplitSecrets();
        Draws draws = new Draws(1);
        x.keep(200);
        x.keep(3);
        int[] first = draws.version(200);
        int[] other = draws.version(3);
        x.lie(1, 0, 7, 8);
        check.due("refresh(0)", x.refresh(0), 2);
        dueVersion(x, 0, draws.version(200));
        dueVersion(x, 1, other);
        check.due("old number", x.old(0, 0, 0), 1);
        check.due("old part in 0", x.old(0, 0, 1), first[0]);
        check.due("old part in 1", x.old(0, 0, 2), first[1]);
        check.due("offset behind refresh", x.of(1, 0, 4), 7);
        check.due("tag's offset behind refresh", x.of(1, 0, 5), 8);
        check.due("versions made", x.count(6), 3);
        check.due("refresh(2)", x.refresh(2), NO_SUCH);
        check.due("refresh(-1)", x.refresh(-1), NO_SUCH);
        x.sleep(0);
        check.due("refresh(2), asleep", x.refresh(2), NO_SUCH);
        check.due("refresh(0), store 0 asleep", x.refresh(0), NOT_POSSIBLE);
        x.sleep(0);
        x.sleep(1);
        check.due("refresh(0), store 1 asleep", x.refresh(0), NOT_POSSIBLE);
        check.due("versions made", x.count(6), 3);
        check.due("x", x.count(10), draws.x);
    }

    private static void refreshUpToTheLastVersion() {
        SplitSecrets x = new SplitSecrets();
        x.keep(1);
        x.set(SplitSecrets.EACH, 1);
        for (int i = 0; i < 10; i++) {
            x.pass(99);
        }
        x.set(SplitSecrets.EACH, 0);
        for (int version = 992; version <= 999; version++) {
            check.due("refresh", x.refresh(0), version);
        }
        check.due("refresh above 999", x.refresh(0), NOT_POSSIBLE);
        check.due("the version", x.ofSecret(0, 0), 999);
    }

    private static void refreshKeepsOldVersions() {
        for (int old = 0; old <= 4; old++) {
            SplitSecrets x = new SplitSecrets();
            Draws draws = new Draws(1);
            x.set(SplitSecrets.OLD, old);
            x.keep(50);
            int[][] versions = new int[8][];
            versions[1] = draws.version(50);
            for (int version = 2; version < 8; version++) {
                x.refresh(0);
                versions[version] = draws.version(50);
                int olds = Math.min(old, version - 1);
                check.due("old versions", x.ofSecret(0, 1), olds);
                check.due("burnt", x.count(7), version - 1 - olds);
                for (int rank = 0; rank < olds; rank++) {
                    check.due("number", x.old(0, rank, 0), version - 1 - rank);
                    check.due("part in 0", x.old(0, rank, 1), versions[version - 1 - rank][0]);
                    check.due("part in 1", x.old(0, rank, 2), versions[version - 1 - rank][1]);
                }
                check.due("no more", x.old(0, olds, 0), NO_SUCH);
            }
        }
    }

    private static void burn() {
        SplitSecrets x = new SplitSecrets();
        x.keep(1);
        x.keep(2);
        check.due("burn without old ones", x.burn(0), 0);
        check.due("is a change", x.count(15), 3);
        x.refresh(0);
        x.refresh(0);
        x.refresh(1);
        check.due("burn(0)", x.burn(0), 2);
        check.due("old versions then", x.ofSecret(0, 1), 0);
        check.due("those of the other secret", x.ofSecret(1, 1), 1);
        check.due("burnt", x.count(7), 2);
        check.due("the version stays", x.ofSecret(0, 0), 3);
        check.due("steal a burnt one", x.steal(0, 0, 2), NO_SUCH);
        check.due("burn(2)", x.burn(2), NO_SUCH);
        check.due("burn(-1)", x.burn(-1), NO_SUCH);
        x.sleep(0);
        check.due("burn(2), asleep", x.burn(2), NO_SUCH);
        check.due("burn(1), store 0 asleep", x.burn(1), NOT_POSSIBLE);
        x.sleep(0);
        x.sleep(1);
        check.due("burn(1), store 1 asleep", x.burn(1), NOT_POSSIBLE);
        check.due("old versions stay", x.ofSecret(1, 1), 1);
    }

    private static void sleep() {
        SplitSecrets x = new SplitSecrets();
        check.due("sleep(-1)", x.sleep(-1), NO_SUCH);
        check.due("sleep(2)", x.sleep(2), NO_SUCH);
        check.due("sleep(1)", x.sleep(1), 1);
        check.due("store 0", x.count(4), 0);
        check.due("store 1", x.count(5), 1);
        check.due("sleep(0)", x.sleep(0), 1);
        check.due("sleep(1)", x.sleep(1), 0);
        check.due("store 0", x.count(4), 1);
        check.due("store 1", x.count(5), 0);
    }

    private static void lie() {
        SplitSecrets x = new SplitSecrets();
        check.due("lie about none", x.lie(0, 0, 1, 1), NO_SUCH);
        x.keep(100);
        check.due("lie(2, ..)", x.lie(2, 0, 1, 1), NO_SUCH);
        check.due("lie(-1, ..)", x.lie(-1, 0, 1, 1), NO_SUCH);
        check.due("lie(0, 1, 256, ..)", x.lie(0, 1, 256, 1), NO_SUCH);
        check.due("lie(0, -1, ..)", x.lie(0, -1, 1, 1), NO_SUCH);
        check.due("offset -1", x.lie(0, 0, -1, 1), BAD_VALUE);
        check.due("offset 256", x.lie(0, 0, 256, 1), BAD_VALUE);
        check.due("tag -1", x.lie(0, 0, 1, -1), BAD_VALUE);
        check.due("tag 257", x.lie(0, 0, 1, 257), BAD_VALUE);
        check.due("a refused lie", x.of(0, 0, 4), 0);
        check.due("lie(0, 0, 255, 256)", x.lie(0, 0, 255, 256), 0);
        check.due("its offset", x.of(0, 0, 4), 255);
        check.due("its tag's offset", x.of(0, 0, 5), 256);
        check.due("of the other store", x.of(1, 0, 4) + x.of(1, 0, 5), 0);
        check.due("its part", x.of(0, 0, 6), (x.of(0, 0, 0) + 255) % 256);
        check.due("its tag", x.of(0, 0, 7), (x.of(0, 0, 1) + 256) % 257);
        x.sleep(0);
        check.due("lie asleep", x.lie(0, 0, 0, 3), 255);
        check.due("lie no more", x.lie(0, 0, 0, 0), 0);
    }

    private static void merge() {
        SplitSecrets x = new SplitSecrets();
        check.due("merge(0) of none", x.merge(0), NO_SUCH);
        x.keep(255);
        x.keep(0);
        check.due("merge(-1)", x.merge(-1), NO_SUCH);
        check.due("merge(2)", x.merge(2), NO_SUCH);
        check.due("merge(0)", x.merge(0), 255);
        check.due("merge(1)", x.merge(1), 0);
        check.due("open ones", x.count(2), 3);
        check.due("what is open", x.ofSecret(1, 2), 0);
        check.due("opened", x.ofSecret(1, 7), 1);
        check.due("no lie passed", x.count(9), 0);
        x.sleep(0);
        check.due("merge(2), asleep", x.merge(2), NO_SUCH);
        check.due("merge(0), store 0 asleep", x.merge(0), NOT_POSSIBLE);
        x.sleep(0);
        x.sleep(1);
        check.due("merge(0), store 1 asleep", x.merge(0), NOT_POSSIBLE);
        check.due("opened", x.ofSecret(0, 7), 1);
    }

    private static void mergeCatches() {
        SplitSecrets x = new SplitSecrets();
        x.keep(20);
        x.keep(21);
        x.lie(0, 0, 1, 0);
        check.due("the store 1 catches", x.merge(0), 1001);
        x.lie(0, 0, 0, 1);
        check.due("a lie about the tag alone", x.merge(0), 1001);
        x.lie(1, 0, 2, 0);
        check.due("the store 0 is the first", x.merge(0), 1000);
        x.lie(0, 0, 0, 0);
        check.due("the store 0 catches", x.merge(0), 1000);
        check.due("not open", x.ofSecret(0, 2), NONE);
        check.due("never opened", x.ofSecret(0, 7), 0);
        check.due("caught", x.ofSecret(0, 4), 4);
        x.lie(1, 1, 3, 0);
        x.merge(1);
        check.due("caught of the other", x.ofSecret(1, 4), 1);
        check.due("caught in all", x.count(8), 5);
        check.due("passed", x.count(9), 0);
        int undos = x.count(15);
        x.undo();
        check.due("a caught lie is a change", x.count(15), undos - 1);
        check.due("caught in all, undone", x.count(8), 4);
    }

    private static void mergeLetsALiePass() {
        SplitSecrets x = new SplitSecrets();
        x.keep(250);
        x.lie(0, 0, 9, x.passing(0, 0, 9));
        check.due("a lie passes", x.merge(0), 3);
        check.due("what is open", x.ofSecret(0, 2), 3);
        check.due("passed", x.count(9), 1);
        x.lie(1, 0, 100, x.passing(1, 0, 100));
        check.due("two lies pass", x.merge(0), 103);
        check.due("as one merger", x.count(9), 2);
        x.lie(0, 0, 0, 0);
        check.due("that of the store 1 passes", x.merge(0), 94);
        check.due("passed", x.count(9), 3);
        x.lie(1, 0, 0, 0);
        check.due("no lie", x.merge(0), 250);
        check.due("passed", x.count(9), 3);
        check.due("caught", x.count(8), 0);
        check.due("opened", x.ofSecret(0, 7), 4);
    }

    private static void mergeOpensAnew() {
        SplitSecrets x = new SplitSecrets();
        x.keep(40);
        x.set(SplitSecrets.OPEN, 5);
        x.merge(0);
        check.due("open for", x.ofSecret(0, 3), 5);
        x.pass(2);
        check.due("open for", x.ofSecret(0, 3), 3);
        x.lie(0, 0, 1, 0);
        x.merge(0);
        check.due("a caught lie leaves it open", x.ofSecret(0, 3), 3);
        check.due("as it was", x.ofSecret(0, 2), 40);
        x.refresh(0);
        check.due("refreshing leaves it open", x.ofSecret(0, 3), 3);
        x.lie(0, 0, 1, x.passing(0, 0, 1));
        x.set(SplitSecrets.OPEN, 4);
        check.due("a setting leaves it open", x.ofSecret(0, 3), 3);
        x.merge(0);
        check.due("open anew, for", x.ofSecret(0, 3), 4);
        check.due("open anew, as", x.ofSecret(0, 2), 41);
        x.pass(4);
        check.due("not open, for", x.ofSecret(0, 3), 0);
        check.due("not open", x.ofSecret(0, 2), NONE);
        check.due("open ones", x.count(2), 0);
    }

    private static void steal() {
        SplitSecrets x = new SplitSecrets();
        check.due("steal of none", x.steal(0, 0, 1), NO_SUCH);
        x.keep(90);
        int part0 = x.of(0, 0, 0);
        int part1 = x.of(1, 0, 0);
        x.refresh(0);
        check.due("steal(2, ..)", x.steal(2, 0, 1), NO_SUCH);
        check.due("steal(-1, ..)", x.steal(-1, 0, 1), NO_SUCH);
        check.due("steal(0, 1, 1)", x.steal(0, 1, 1), NO_SUCH);
        check.due("steal(0, -1, 1)", x.steal(0, -1, 1), NO_SUCH);
        int[] versions = {0, 3, -1, 1000, Integer.MIN_VALUE, Integer.MAX_VALUE};
        for (int version : versions) {
            check.due("steal(0, 0, " + version + ")", x.steal(0, 0, version), NO_SUCH);
        }
        x.lie(0, 0, 5, 5);
        x.sleep(0);
        check.due("the part now, of a store that lies and sleeps", x.steal(0, 0, 2), x.of(0, 0, 0));
        check.due("an old part", x.steal(1, 0, 1), part1);
        check.due("parts", x.ofSecret(0, 6), 2);
        check.due("not known by parts of two versions", x.ofSecret(0, 5), 0);
        check.due("the same again", x.steal(1, 0, 1), part1);
        check.due("parts", x.ofSecret(0, 6), 2);
        check.due("is a change", x.count(15), 6);
        check.due("both", x.steal(0, 0, 1), part0);
        check.due("known", x.ofSecret(0, 5), 1);
        check.due("known ones", x.count(3), 1);
        x.sleep(0);
        x.burn(0);
        check.due("known, burnt", x.ofSecret(0, 5), 1);
        check.due("parts, burnt", x.ofSecret(0, 6), 3);
        x.refresh(0);
        check.due("parts of the version now", x.steal(0, 0, 3), x.of(0, 0, 0));
        check.due("parts, counted", x.ofSecret(0, 6), 4);
        check.due("parts of the old version", x.old(0, 0, 3), 1);
    }

    private static void pass() {
        SplitSecrets x = new SplitSecrets();
        check.due("pass(0)", x.pass(0), BAD_VALUE);
        check.due("pass(100)", x.pass(100), BAD_VALUE);
        check.due("pass(-1)", x.pass(-1), BAD_VALUE);
        check.due("pass(99)", x.pass(99), 0);
        check.due("beats", x.count(0), 99);
        check.due("pass(1)", x.pass(1), 0);
        check.due("beats", x.count(0), 100);
        x.keep(1);
        x.keep(2);
        x.set(SplitSecrets.OPEN, 2);
        x.merge(0);
        x.set(SplitSecrets.OPEN, 20);
        x.merge(1);
        x.pass(1);
        check.due("open ones", x.count(2), 3);
        x.pass(1);
        check.due("open ones", x.count(2), 2);
        x.pass(17);
        check.due("open for", x.ofSecret(1, 3), 1);
        x.pass(99);
        check.due("open for", x.ofSecret(1, 3), 0);
        check.due("open ones", x.count(2), 0);
    }

    private static void passRefreshes() {
        SplitSecrets x = new SplitSecrets();
        Draws draws = new Draws(1);
        x.keep(7);
        x.keep(8);
        draws.version(7);
        draws.version(8);
        x.pass(2);
        x.set(SplitSecrets.EACH, 4);
        check.due("beat 3", x.pass(1), 0);
        check.due("beat 4", x.pass(1), 2);
        dueVersion(x, 0, draws.version(7));
        dueVersion(x, 1, draws.version(8));
        check.due("beats 5 to 12", x.pass(8), 4);
        check.due("version", x.ofSecret(0, 0), 4);
        check.due("versions made", x.count(6), 8);
        check.due("burnt", x.count(7), 2);
        x.sleep(0);
        check.due("beats 13 to 16, store 0 asleep", x.pass(4), 0);
        x.sleep(0);
        x.sleep(1);
        check.due("beats 17 to 20, store 1 asleep", x.pass(4), 0);
        x.sleep(1);
        check.due("beats 21 to 23", x.pass(3), 0);
        check.due("beat 24", x.pass(1), 2);
    }

    private static void passLeavesOutTheLastVersion() {
        SplitSecrets x = new SplitSecrets();
        x.keep(1);
        x.set(SplitSecrets.EACH, 1);
        for (int i = 0; i < 10; i++) {
            x.pass(99);
        }
        x.keep(2);
        check.due("up to version 999", x.pass(7), 14);
        check.due("its last version", x.pass(2), 3);
        check.due("the younger one alone", x.pass(2), 2);
        check.due("the last version", x.ofSecret(0, 0), 999);
        check.due("the other's version", x.ofSecret(1, 0), 12);
    }

    private static void passUpToTheLastBeat() {
        SplitSecrets x = new SplitSecrets();
        for (int i = 0; i < 100; i++) {
            x.pass(99);
        }
        check.due("beats", x.count(0), 9900);
        check.due("pass(98)", x.pass(98), 0);
        check.due("pass(2) above 9999", x.pass(2), NOT_POSSIBLE);
        check.due("pass(100) above 9999", x.pass(100), BAD_VALUE);
        check.due("pass(1) up to 9999", x.pass(1), 0);
        check.due("pass(1) above 9999", x.pass(1), NOT_POSSIBLE);
        check.due("beats", x.count(0), 9999);
    }
}
