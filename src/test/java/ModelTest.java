/**
 * Long runs of calls on the program and on the model, whose answers have to be the same. The numbers that
 * choose the calls come from a row with a fixed beginning, so each run of the test is the same.
 */
public final class ModelTest {
    private static final int RUNS = 2500;
    private static final int CALLS = 512;
    private static final int MOST_AT_ONCE = 60; // of the program's calls in one step
    private static final int[] WRONG = {-1, -2, -6, 999, 1000, 65537, Integer.MIN_VALUE, Integer.MAX_VALUE};
    private static final Check check = new Check("ModelTest");

    private final SplitSecrets x = new SplitSecrets();
    private final Model model = new Model();
    private final boolean manyVersions;
    private int calls;
    private long row;

    private ModelTest(int run) {
        row = run * 7919L + 17;
        manyVersions = run % 5 == 0;
    }

    public static void main(String[] args) {
        for (int run = 0; run < RUNS; run++) {
            ModelTest one = new ModelTest(run);
            one.keepSecrets("run " + run + ", ", run % 9);
            while (one.calls <= CALLS - MOST_AT_ONCE) {
                one.step("run " + run + ", call " + one.calls + ": ");
            }
            check.holds("an object is used for at most 512 calls", one.calls <= CALLS);
        }
        check.end();
    }

    private int below(int bound) {
        row = row * 6364136223846793005L + 1442695040888963407L;
        return (int) ((row >>> 33) % bound);
    }

    /** A number of 0 to most, at times one of its ends or one beside them, at times a wrong one. */
    private int upTo(int most) {
        int kind = below(40);
        if (kind == 0) {
            return WRONG[below(WRONG.length)];
        }
        if (kind == 1) {
            return most + 1;
        }
        if (kind < 6) {
            return kind % 2 == 0 ? 0 : most;
        }
        return below(most + 1);
    }

    private int secret() {
        int secrets = model.count(1);
        return below(15) == 0 ? upTo(9) : below(Math.max(1, secrets));
    }

    private int version(int secret) {
        int now = model.ofSecret(secret, 0);
        return below(12) == 0 ? upTo(999) : now - below(Math.min(5, Math.max(1, now)));
    }

    /** Each call of it is one of the program, and counted. */
    private void due(String call, int got, int want) {
        calls++;
        check.due(call, got, want);
    }

    private void step(String at) {
        if (manyVersions && below(2) == 0) {
            pass(at, 99);
            return;
        }
        int kind = below(100);
        if (kind < 55) {
            change(at, below(11));
        } else if (kind < 80) {
            ask(at, below(10));
        } else if (kind < 95) {
            text(at);
        } else if (kind < 98) {
            due(at + "undo()", x.undo(), model.undo());
        } else {
            int slot = upTo(1);
            due(at + "save", x.save(slot), model.save(slot));
        }
        due(at + "x", x.count(10), model.count(10));
        due(at + "changes", x.count(15), model.count(15));
    }

    private void change(String at, int kind) {
        int secret = secret();
        int store = upTo(1);
        int offset = upTo(255);
        int tag = below(2) == 0 ? upTo(256) : model.passing(store, secret, offset);
        switch (kind) {
            case 0:
                int setting = upTo(2);
                int value = below(2) == 0 ? upTo(manyVersions ? 1 : 5) : upTo(99);
                due(at + "set", x.set(setting, value), model.change("set", setting, value));
                break;
            case 1:
                int seed = upTo(9999);
                due(at + "seed", x.seed(seed), model.change("seed", seed));
                break;
            case 2:
                int kept = upTo(255);
                due(at + "keep", x.keep(kept), model.change("keep", kept));
                break;
            case 3:
                due(at + "refresh", x.refresh(secret), model.change("refresh", secret));
                break;
            case 4:
                due(at + "burn", x.burn(secret), model.change("burn", secret));
                break;
            case 5:
                sleep(at, store);
                break;
            case 6:
                due(at + "lie", x.lie(store, secret, offset, tag), model.change("lie", store, secret, offset, tag));
                break;
            case 7:
                due(at + "merge", x.merge(secret), model.change("merge", secret));
                break;
            case 8:
                int version = version(secret);
                due(at + "steal", x.steal(store, secret, version), model.change("steal", store, secret, version));
                break;
            case 9:
                pass(at, below(3) == 0 ? upTo(99) : below(6));
                break;
            default:
                int slot = below(4) == 0 ? upTo(1) : 2;
                due(at + "restore", x.restore(slot), model.change("restore", slot));
        }
    }

    private void keepSecrets(String at, int some) {
        for (int i = 0; i < some; i++) {
            int secret = upTo(255);
            due(at + "keep", x.keep(secret), model.change("keep", secret));
        }
    }

    private void pass(String at, int beats) {
        due(at + "pass", x.pass(beats), model.change("pass", beats));
    }

    // A store that sleeps refuses most calls, so it is woken again soon.
    private void sleep(String at, int store) {
        if (store == 0 || store == 1) {
            if (model.count(4 + store) == 0 && below(3) > 0) {
                return;
            }
        }
        due(at + "sleep", x.sleep(store), model.change("sleep", store));
    }

    private void ask(String at, int kind) {
        int secret = secret();
        int store = upTo(1);
        int value = upTo(256);
        switch (kind) {
            case 0:
                for (int what = -1; what <= 8; what++) {
                    due(at + "of", x.of(store, secret, what), model.of(store, secret, what));
                }
                break;
            case 1:
                for (int what = -1; what <= 8; what++) {
                    due(at + "ofSecret", x.ofSecret(secret, what), model.ofSecret(secret, what));
                }
                break;
            case 2:
                for (int rank = -1; rank <= 5; rank++) {
                    for (int what = -1; what <= 4; what++) {
                        due(at + "old", x.old(secret, rank, what), model.old(secret, rank, what));
                    }
                }
                break;
            case 3:
                for (int what = -1; what <= 16; what++) {
                    due(at + "count", x.count(what), model.count(what));
                }
                break;
            case 4:
                due(at + "otherwise", x.otherwise(store, secret, value), model.otherwise(store, secret, value));
                break;
            case 5:
                due(at + "passing", x.passing(store, secret, value), model.passing(store, secret, value));
                break;
            case 6:
                due(at + "passes", x.passes(store, secret, value), model.passes(store, secret, value));
                break;
            case 7:
                due(at + "needed", x.needed(secret), model.needed(secret));
                break;
            case 8:
                due(at + "atRisk", x.atRisk(secret), model.atRisk(secret));
                break;
            default:
                due(at + "ifMerged", x.ifMerged(secret), model.ifMerged(secret));
        }
    }

    private void text(String at) {
        StringBuilder text = new StringBuilder();
        for (int orders = below(9); orders >= 0; orders--) {
            text.append(order()).append(orders > 0 ? ";" : "");
        }
        if (below(4) == 0) {
            String signs = "krumzltbab+,.;0195";
            text.setCharAt(below(text.length()), signs.charAt(below(signs.length())));
        }
        if (below(10) == 0) {
            text.setLength(1 + below(text.length()));
        }
        for (int from = 0; from < text.length(); from += 8) {
            long characters = Texts.number(text.substring(from, Math.min(text.length(), from + 8)));
            characters = below(200) == 0 ? characters << 8 * below(8) : characters;
            due(at + "put", x.put(characters), model.put(characters));
        }
        due(at + "fault of " + text, x.fault(), model.fault());
        if (below(8) > 0) {
            due(at + "carryOut", x.carryOut(), model.change("carryOut"));
        }
        if (below(3) == 0) {
            due(at + "wipe", x.wipe(), model.wipe());
        }
    }

    private String order() {
        int secret = below(9) == 0 ? below(10) : below(Math.max(1, model.count(1)));
        String store = below(2) == 0 ? "a" : "b";
        switch (below(9)) {
            case 0:
                return "k" + below(below(9) == 0 ? 1000 : 256);
            case 1:
                return "r" + secret;
            case 2:
                return "u" + secret;
            case 3:
                return "m" + secret;
            case 4:
                return below(4) == 0 ? "z" + store : "r" + secret;
            case 5:
                return "l" + store + secret + "+" + below(270) + (below(2) == 0 ? "" : "," + below(270));
            case 6:
                return "t" + store + secret;
            case 7:
                return "t" + store + secret + "." + Math.max(0, model.ofSecret(secret, 0) - below(4));
            default:
                return "b" + below(below(5) == 0 ? 110 : 4);
        }
    }
}
