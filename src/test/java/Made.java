/** Objects in the states that tests of boundaries begin with; each takes at most 110 calls of the 512. */
final class Made {
    private Made() {
    }

    static SplitSecrets empty() {
        return new SplitSecrets();
    }

    /** Something of everything: three secrets, old and burnt versions, lies, thieves, a history, a pad, one slot. */
    static SplitSecrets filled() {
        SplitSecrets x = new SplitSecrets();
        x.keep(10);
        x.keep(20);
        x.keep(0);
        x.set(SplitSecrets.OLD, 3);
        for (int version = 2; version <= 6; version++) {
            x.refresh(0);
        }
        x.set(SplitSecrets.OPEN, 9);
        x.merge(0);
        x.save(0);
        x.lie(0, 0, 3, 4);
        x.merge(0);
        x.steal(1, 0, 5);
        x.steal(0, 0, 5);
        x.lie(0, 1, 3, x.passing(0, 1, 3));
        x.merge(1);
        x.steal(0, 0, 6);
        x.pass(2);
        x.set(SplitSecrets.EACH, 7);
        Texts.put(x, "k1;");
        return x;
    }

    static SplitSecrets filledWithOneAsleep(int store) {
        SplitSecrets x = filled();
        x.sleep(store);
        return x;
    }

    static SplitSecrets withEightSecrets() {
        SplitSecrets x = new SplitSecrets();
        for (int secret = 0; secret < 8; secret++) {
            x.keep(secret);
        }
        return x;
    }

    /** One secret, of this version, and as few beats as that takes. */
    static SplitSecrets withVersion(int version) {
        SplitSecrets x = new SplitSecrets();
        x.keep(77);
        x.set(SplitSecrets.EACH, 1);
        passBeats(x, version - 1);
        x.set(SplitSecrets.EACH, 0);
        return x;
    }

    static SplitSecrets withBeats(int beats) {
        SplitSecrets x = new SplitSecrets();
        passBeats(x, beats);
        return x;
    }

    private static void passBeats(SplitSecrets x, int beats) {
        int left = beats;
        while (left > 0) {
            int some = Math.min(99, left);
            x.pass(some);
            left -= some;
        }
    }

    static SplitSecrets withPad(String text) {
        SplitSecrets x = new SplitSecrets();
        Texts.put(x, text);
        return x;
    }
}
