/** Everything that an object answers without changing, so that two objects can be compared. */
final class Look {
    private final SplitSecrets x;
    private final StringBuilder seen = new StringBuilder();

    private Look(SplitSecrets x) {
        this.x = x;
    }

    /** It takes 28 calls, and some 30 to 45 more for each secret. */
    static String at(SplitSecrets x) {
        Look look = new Look(x);
        for (int what = -1; what <= 16; what++) {
            look.see("count " + what, x.count(what));
        }
        look.see("fault", x.fault());
        int secrets = x.count(1);
        for (int secret = 0; secret <= secrets && secret < 9; secret++) {
            look.secret(secret);
        }
        return look.seen.toString();
    }

    /** The first figure that differs, or "no difference". */
    static String difference(String one, String other) {
        String[] ones = one.split("\n");
        String[] others = other.split("\n");
        for (int i = 0; i < Math.min(ones.length, others.length); i++) {
            if (!ones[i].equals(others[i])) {
                return ones[i] + " instead of " + others[i];
            }
        }
        return ones.length == others.length ? "no difference" : "another number of figures";
    }

    private void see(String what, int answer) {
        seen.append(what).append(" is ").append(answer).append('\n');
    }

    private void secret(int secret) {
        int olds = x.ofSecret(secret, 1);
        if (olds < 0) {
            see("ofSecret " + secret, olds);
            return;
        }
        for (int what = 0; what < 8; what++) {
            see("ofSecret " + secret + " " + what, x.ofSecret(secret, what));
            see("of 0 " + secret + " " + what, x.of(0, secret, what));
            see("of 1 " + secret + " " + what, x.of(1, secret, what));
        }
        for (int rank = 0; rank < olds; rank++) {
            for (int what = 0; what < 4; what++) {
                see("old " + secret + " " + rank + " " + what, x.old(secret, rank, what));
            }
        }
        see("old, one more, of " + secret, x.old(secret, olds, 0));
        see("needed " + secret, x.needed(secret));
        see("atRisk " + secret, x.atRisk(secret));
        see("ifMerged " + secret, x.ifMerged(secret));
    }
}
