/** Promises 12 to 15: of, ofSecret, old, count. */
public final class FiguresTest {
    private static final int NO_SUCH = SplitSecrets.NO_SUCH, BAD_VALUE = SplitSecrets.BAD_VALUE;
    private static final int NONE = SplitSecrets.NONE;
    private static final Check check = new Check("FiguresTest");

    public static void main(String[] args) {
        of();
        ofSecret();
        old();
        count();
        countWithAllSecrets();
        check.end();
    }

    private static void of() {
        SplitSecrets x = new SplitSecrets();
        check.due("of a secret that is not there", x.of(0, 0, 0), NO_SUCH);
        x.keep(200);
        int[] version = new Draws(1).version(200);
        x.lie(0, 0, 250, 3);
        x.lie(1, 0, 2, 255);
        int[][] due = {
            {version[0], version[2], version[4], version[6], 250, 3, (version[0] + 250) % 256, (version[2] + 3) % 257},
            {version[1], version[3], version[5], version[7], 2, 255, (version[1] + 2) % 256, (version[3] + 255) % 257},
        };
        for (int store = 0; store < 2; store++) {
            for (int what = 0; what < 8; what++) {
                check.due("of(" + store + ", 0, " + what + ")", x.of(store, 0, what), due[store][what]);
            }
            check.due("of(.., 8)", x.of(store, 0, 8), BAD_VALUE);
            check.due("of(.., -1)", x.of(store, 0, -1), BAD_VALUE);
            check.due("of(.., 1, 8)", x.of(store, 1, 8), NO_SUCH);
            check.due("of(.., -1, 8)", x.of(store, -1, 8), NO_SUCH);
        }
        check.due("of(2, 0, 8)", x.of(2, 0, 8), NO_SUCH);
        check.due("of(-1, 0, 0)", x.of(-1, 0, 0), NO_SUCH);
        check.due("nothing changes", x.count(15), 3);
    }

    private static void ofSecret() {
        SplitSecrets x = new SplitSecrets();
        check.due("ofSecret(0, 8) of none", x.ofSecret(0, 8), NO_SUCH);
        x.keep(10);
        x.keep(11);
        due(x, 0, 1, 0, NONE, 0, 0, 0, 0, 0);
        x.set(SplitSecrets.OPEN, 6);
        x.refresh(0);
        x.refresh(0);
        x.refresh(0);
        x.merge(0);
        x.merge(0);
        x.pass(1);
        x.lie(1, 0, 1, 0);
        x.merge(0);
        x.steal(0, 0, 2);
        x.steal(0, 0, 3);
        x.steal(0, 0, 4);
        x.steal(1, 0, 4);
        due(x, 0, 4, 2, 10, 5, 1, 1, 4, 2);
        due(x, 1, 1, 0, NONE, 0, 0, 0, 0, 0);
        check.due("ofSecret(0, 8)", x.ofSecret(0, 8), BAD_VALUE);
        check.due("ofSecret(0, -1)", x.ofSecret(0, -1), BAD_VALUE);
        check.due("ofSecret(2, 0)", x.ofSecret(2, 0), NO_SUCH);
        check.due("ofSecret(-1, 8)", x.ofSecret(-1, 8), NO_SUCH);
    }

    private static void due(SplitSecrets x, int secret, int... figures) {
        for (int what = 0; what < figures.length; what++) {
            check.due("ofSecret(" + secret + ", " + what + ")", x.ofSecret(secret, what), figures[what]);
        }
    }

    private static void old() {
        SplitSecrets x = new SplitSecrets();
        check.due("old of none", x.old(0, 0, 4), NO_SUCH);
        x.keep(66);
        check.due("no old one", x.old(0, 0, 0), NO_SUCH);
        Draws draws = new Draws(1);
        int[] first = draws.version(66);
        int[] second = draws.version(66);
        x.refresh(0);
        x.refresh(0);
        int[] parts = {first[0], first[1], second[0], second[1]};
        check.due("old(0, 0, 0)", x.old(0, 0, 0), 2);
        check.due("old(0, 1, 0)", x.old(0, 1, 0), 1);
        for (int store = 0; store < 2; store++) {
            check.due("part of 1", x.old(0, 1, 1 + store), parts[store]);
            check.due("part of 2", x.old(0, 0, 1 + store), parts[2 + store]);
        }
        check.due("thieves have none", x.old(0, 0, 3), 0);
        x.steal(1, 0, 2);
        x.steal(0, 0, 1);
        check.due("that of the store 1", x.old(0, 0, 3), 2);
        check.due("that of the store 0", x.old(0, 1, 3), 1);
        x.steal(1, 0, 1);
        check.due("both", x.old(0, 1, 3), 3);
        x.steal(0, 0, 3);
        x.refresh(0);
        check.due("stolen while it was now", x.old(0, 0, 3), 1);
        check.due("goes with its version", x.old(0, 1, 3), 2);
        check.due("old(0, 0, 4)", x.old(0, 0, 4), BAD_VALUE);
        check.due("old(0, 0, -1)", x.old(0, 0, -1), BAD_VALUE);
        check.due("old(0, 2, 4)", x.old(0, 2, 4), NO_SUCH);
        check.due("old(0, -1, 4)", x.old(0, -1, 4), NO_SUCH);
        check.due("old(1, 0, 4)", x.old(1, 0, 4), NO_SUCH);
        check.due("old(-1, 0, 0)", x.old(-1, 0, 0), NO_SUCH);
        check.due("old(0, MAX, 0)", x.old(0, Integer.MAX_VALUE, 0), NO_SUCH);
    }

    private static void count() {
        SplitSecrets x = new SplitSecrets();
        Draws draws = new Draws(1);
        for (int secret = 0; secret < 3; secret++) {
            x.keep(secret);
            draws.version(secret);
        }
        for (int i = 0; i < 3; i++) {
            x.refresh(2);
            draws.version(2);
        }
        x.set(SplitSecrets.OPEN, 3);
        x.set(SplitSecrets.EACH, 99);
        x.set(SplitSecrets.OLD, 1);
        x.pass(5);
        x.merge(0);
        x.lie(0, 2, 5, x.passing(0, 2, 5));
        x.merge(2);
        x.lie(0, 1, 5, 0);
        x.merge(1);
        x.merge(1);
        x.steal(0, 1, 1);
        x.steal(1, 1, 1);
        x.sleep(1);
        Texts.put(x, "hello");
        int[] due = {5, 3, 5, 2, 0, 1, 6, 1, 2, 1, draws.x, 3, 99, 1, 5, 6};
        for (int what = 0; what < due.length; what++) {
            check.due("count(" + what + ")", x.count(what), due[what]);
        }
        check.due("count(16)", x.count(16), BAD_VALUE);
        check.due("count(-1)", x.count(-1), BAD_VALUE);
        x.sleep(0);
        x.sleep(1);
        check.due("count(4)", x.count(4), 1);
        check.due("count(5)", x.count(5), 0);
    }

    private static void countWithAllSecrets() {
        SplitSecrets x = new SplitSecrets();
        for (int secret = 0; secret < 8; secret++) {
            x.keep(secret);
            x.merge(secret);
            x.steal(0, secret, 1);
            x.steal(1, secret, 1);
        }
        check.due("all are open", x.count(2), 255);
        check.due("all are known", x.count(3), 255);
        x.set(SplitSecrets.EACH, 1);
        check.due("all are refreshed", x.pass(1), 8);
        check.due("none is open", x.count(2), 0);
        check.due("all are known", x.count(3), 255);
    }
}
