import java.util.function.Supplier;
import java.util.function.ToIntBiFunction;
import java.util.function.ToIntFunction;

/**
 * "A call that returns an error changes nothing": neither what there is, nor the pad, the history or the slots. So each
 * call that is refused is made on one of two objects with the same calls behind them, and both must go on alike.
 */
public final class RefusalsTest {
    private static final int NO_SUCH = SplitSecrets.NO_SUCH, BAD_VALUE = SplitSecrets.BAD_VALUE, BAD_TEXT = SplitSecrets.BAD_TEXT;
    private static final int TOO_MANY = SplitSecrets.TOO_MANY, NOT_POSSIBLE = SplitSecrets.NOT_POSSIBLE;
    private static final int NO_ERROR = 0;
    private static final int WAYS_ON = 12;
    private static final Check check = new Check("RefusalsTest");

    public static void main(String[] args) {
        set();
        seed();
        keep();
        refresh();
        burn();
        sleep();
        lie();
        merge();
        steal();
        pass();
        of();
        ofSecret();
        old();
        count();
        otherwise();
        passing();
        passes();
        needed();
        atRisk();
        ifMerged();
        put();
        carryOut();
        undo();
        save();
        restore();
        asksChangeNothing();
        check.end();
    }

    private static void changesNothing(String call, Supplier<SplitSecrets> made, ToIntFunction<SplitSecrets> refusedCall, int error) {
        for (int way = 0; way < WAYS_ON; way++) {
            SplitSecrets refused = made.get();
            SplitSecrets untouched = made.get();
            int answer = refusedCall.applyAsInt(refused);
            if (error != NO_ERROR) {
                check.due(call, answer, error);
            }
            check.due(call + ", what follows", goOn(refused, way), goOn(untouched, way));
            String difference = Look.difference(Look.at(refused), Look.at(untouched));
            check.due(call + ", the first difference then", difference, "no difference");
        }
    }

    /** The ways in which what is hidden comes to light: 0 nothing, 1 the pad, 2 the draws, 3 and 4 the slots, then undo. */
    private static int goOn(SplitSecrets x, int way) {
        switch (way) {
            case 0:
                return 0;
            case 1:
                x.put(Texts.number("k2;tb0"));
                return x.carryOut();
            case 2:
                return x.refresh(0);
            case 3:
                return x.restore(0);
            case 4:
                return x.restore(1);
            default:
                int answer = 0;
                for (int i = 4; i < way; i++) {
                    answer = x.undo();
                }
                return answer;
        }
    }

    private static void refusedInFilled(String call, ToIntFunction<SplitSecrets> refused, int error) {
        changesNothing(call, Made::filled, refused, error);
    }

    private static void refusedAsleep(String call, ToIntFunction<SplitSecrets> refused) {
        changesNothing(call + ", store 0 asleep", () -> Made.filledWithOneAsleep(0), refused, NOT_POSSIBLE);
        changesNothing(call + ", store 1 asleep", () -> Made.filledWithOneAsleep(1), refused, NOT_POSSIBLE);
        changesNothing(call + ", both asleep", RefusalsTest::filledWithBothAsleep, refused, NOT_POSSIBLE);
    }

    private static SplitSecrets filledWithBothAsleep() {
        SplitSecrets x = Made.filledWithOneAsleep(0);
        x.sleep(1);
        return x;
    }

    private static void refusedWithoutSecret(String call, ToIntBiFunction<SplitSecrets, Integer> refused) {
        int[] none = {-1, 3, 8, 9, Integer.MIN_VALUE, Integer.MAX_VALUE};
        for (int secret : none) {
            refusedInFilled(call + " of " + secret, x -> refused.applyAsInt(x, secret), NO_SUCH);
        }
        changesNothing(call + " of 0, when there is none", Made::empty, x -> refused.applyAsInt(x, 0), NO_SUCH);
    }

    private static void refusedWithoutStore(String call, ToIntBiFunction<SplitSecrets, Integer> refused) {
        int[] none = {-1, 2, Integer.MIN_VALUE, Integer.MAX_VALUE};
        for (int store : none) {
            refusedInFilled(call + " of the store " + store, x -> refused.applyAsInt(x, store), NO_SUCH);
        }
    }

    private static void set() {
        int[][] bad = {{-1, 1}, {3, 1}, {0, 0}, {0, 21}, {0, -1}, {1, -1}, {1, 100}, {2, -1}, {2, 5},
            {Integer.MIN_VALUE, 1}, {Integer.MAX_VALUE, 1}, {0, Integer.MIN_VALUE}, {2, Integer.MAX_VALUE}};
        for (int[] a : bad) {
            refusedInFilled("set(" + a[0] + ", " + a[1] + ")", x -> x.set(a[0], a[1]), BAD_VALUE);
        }
    }

    private static void seed() {
        int[] bad = {-1, 10000, 65536, Integer.MIN_VALUE, Integer.MAX_VALUE};
        for (int seed : bad) {
            refusedInFilled("seed(" + seed + ")", x -> x.seed(seed), BAD_VALUE);
        }
    }

    private static void keep() {
        int[] bad = {-1, 256, Integer.MIN_VALUE, Integer.MAX_VALUE};
        for (int secret : bad) {
            refusedInFilled("keep(" + secret + ")", x -> x.keep(secret), BAD_VALUE);
            changesNothing("keep(" + secret + ") as the 9th", Made::withEightSecrets, x -> x.keep(secret), BAD_VALUE);
        }
        changesNothing("keep(0) as the 9th", Made::withEightSecrets, x -> x.keep(0), TOO_MANY);
        refusedAsleep("keep(0)", x -> x.keep(0));
    }

    private static void refresh() {
        refusedWithoutSecret("refresh", (x, secret) -> x.refresh(secret));
        refusedAsleep("refresh(0)", x -> x.refresh(0));
        changesNothing("refresh(0) above 999", () -> Made.withVersion(999), x -> x.refresh(0), NOT_POSSIBLE);
    }

    private static void burn() {
        refusedWithoutSecret("burn", (x, secret) -> x.burn(secret));
        refusedAsleep("burn(0)", x -> x.burn(0));
        refusedAsleep("burn(1) without old ones", x -> x.burn(1));
    }

    private static void sleep() {
        refusedWithoutStore("sleep", (x, store) -> x.sleep(store));
    }

    private static void lie() {
        refusedWithoutStore("lie", (x, store) -> x.lie(store, 0, 1, 1));
        refusedWithoutSecret("lie", (x, secret) -> x.lie(0, secret, 1, 1));
        int[][] bad = {{-1, 1}, {256, 1}, {1, -1}, {1, 257}, {Integer.MIN_VALUE, 1}, {Integer.MAX_VALUE, 1},
            {1, Integer.MIN_VALUE}, {1, Integer.MAX_VALUE}};
        for (int[] a : bad) {
            refusedInFilled("lie(1, 0, " + a[0] + ", " + a[1] + ")", x -> x.lie(1, 0, a[0], a[1]), BAD_VALUE);
        }
    }

    private static void merge() {
        refusedWithoutSecret("merge", (x, secret) -> x.merge(secret));
        refusedAsleep("merge(0), which would catch a lie", x -> x.merge(0));
        refusedAsleep("merge(1), which would open it", x -> x.merge(1));
    }

    private static void steal() {
        refusedWithoutStore("steal", (x, store) -> x.steal(store, 0, 6));
        refusedWithoutSecret("steal", (x, secret) -> x.steal(0, secret, 1));
        // The secret 0 has the version 6 and keeps 5, 4 and 3.
        int[] none = {7, 2, 1, 0, -1, 999, 1000, Integer.MIN_VALUE, Integer.MAX_VALUE};
        for (int version : none) {
            refusedInFilled("steal(1, 0, " + version + ")", x -> x.steal(1, 0, version), NO_SUCH);
        }
    }

    private static void pass() {
        int[] bad = {0, -1, 100, Integer.MIN_VALUE, Integer.MAX_VALUE};
        for (int beats : bad) {
            refusedInFilled("pass(" + beats + ")", x -> x.pass(beats), BAD_VALUE);
        }
        changesNothing("pass(1) above 9999", () -> Made.withBeats(9999), x -> x.pass(1), NOT_POSSIBLE);
        changesNothing("pass(99) above 9999", () -> Made.withBeats(9901), x -> x.pass(99), NOT_POSSIBLE);
        changesNothing("pass(100) above 9999", () -> Made.withBeats(9999), x -> x.pass(100), BAD_VALUE);
    }

    private static void of() {
        refusedWithoutStore("of", (x, store) -> x.of(store, 0, 0));
        refusedWithoutSecret("of", (x, secret) -> x.of(1, secret, 0));
        refusedInFilled("of(0, 0, -1)", x -> x.of(0, 0, -1), BAD_VALUE);
        refusedInFilled("of(0, 0, 8)", x -> x.of(0, 0, 8), BAD_VALUE);
    }

    private static void ofSecret() {
        refusedWithoutSecret("ofSecret", (x, secret) -> x.ofSecret(secret, 0));
        refusedInFilled("ofSecret(0, -1)", x -> x.ofSecret(0, -1), BAD_VALUE);
        refusedInFilled("ofSecret(0, 8)", x -> x.ofSecret(0, 8), BAD_VALUE);
    }

    private static void old() {
        refusedWithoutSecret("old", (x, secret) -> x.old(secret, 0, 0));
        refusedInFilled("old(0, 3, 0)", x -> x.old(0, 3, 0), NO_SUCH);
        refusedInFilled("old(0, -1, 0)", x -> x.old(0, -1, 0), NO_SUCH);
        refusedInFilled("old(0, 0, -1)", x -> x.old(0, 0, -1), BAD_VALUE);
        refusedInFilled("old(0, 2, 4)", x -> x.old(0, 2, 4), BAD_VALUE);
    }

    private static void count() {
        int[] bad = {-1, 16, Integer.MIN_VALUE, Integer.MAX_VALUE};
        for (int what : bad) {
            refusedInFilled("count(" + what + ")", x -> x.count(what), BAD_VALUE);
        }
    }

    private static void otherwise() {
        refusedWithoutStore("otherwise", (x, store) -> x.otherwise(store, 0, 0));
        refusedWithoutSecret("otherwise", (x, secret) -> x.otherwise(1, secret, 0));
        refusedInFilled("otherwise(0, 0, -1)", x -> x.otherwise(0, 0, -1), BAD_VALUE);
        refusedInFilled("otherwise(0, 0, 256)", x -> x.otherwise(0, 0, 256), BAD_VALUE);
    }

    private static void passing() {
        refusedWithoutStore("passing", (x, store) -> x.passing(store, 0, 0));
        refusedWithoutSecret("passing", (x, secret) -> x.passing(1, secret, 0));
        refusedInFilled("passing(0, 0, -1)", x -> x.passing(0, 0, -1), BAD_VALUE);
        refusedInFilled("passing(0, 0, 256)", x -> x.passing(0, 0, 256), BAD_VALUE);
    }

    private static void passes() {
        refusedWithoutStore("passes", (x, store) -> x.passes(store, 0, 0));
        refusedWithoutSecret("passes", (x, secret) -> x.passes(1, secret, 0));
        refusedInFilled("passes(0, 0, -1)", x -> x.passes(0, 0, -1), BAD_VALUE);
        refusedInFilled("passes(0, 0, 257)", x -> x.passes(0, 0, 257), BAD_VALUE);
    }

    private static void needed() {
        refusedWithoutSecret("needed", (x, secret) -> x.needed(secret));
    }

    private static void atRisk() {
        refusedWithoutSecret("atRisk", (x, secret) -> x.atRisk(secret));
    }

    private static void ifMerged() {
        refusedWithoutSecret("ifMerged", (x, secret) -> x.ifMerged(secret));
        refusedAsleep("ifMerged(0)", x -> x.ifMerged(0));
    }

    private static void put() {
        long[] bad = {0, ' ', 127, 255, Texts.number("k\0k"), Texts.number("k\0"), Texts.number("k k"), -1, Long.MIN_VALUE};
        for (long characters : bad) {
            refusedInFilled("put(" + characters + ")", x -> x.put(characters), BAD_VALUE);
        }
        String full = "r0;".repeat(26) + "r0";
        changesNothing("put(k) on a pad of 80", () -> Made.withPad(full), x -> x.put('k'), TOO_MANY);
        changesNothing("put(;k) on a pad of 79", () -> Made.withPad("k7;" + full.substring(0, 76)), x -> x.put(Texts.number(";k")), TOO_MANY);
        changesNothing("put( ) on a pad of 80", () -> Made.withPad(full), x -> x.put(' '), BAD_VALUE);
    }

    private static void carryOut() {
        refusedInFilled("carryOut() of \"k1;\"", SplitSecrets::carryOut, BAD_TEXT);
        changesNothing("carryOut() of an empty pad", Made::empty, SplitSecrets::carryOut, BAD_TEXT);
        changesNothing("carryOut() with a fault at the end", () -> Made.withPad("k5;b9;sleep"), SplitSecrets::carryOut, BAD_TEXT);
    }

    private static void undo() {
        changesNothing("undo() of a new object", Made::empty, SplitSecrets::undo, NOT_POSSIBLE);
        changesNothing("undo() of a 7th change", RefusalsTest::filledAndUndone, SplitSecrets::undo, NOT_POSSIBLE);
    }

    private static SplitSecrets filledAndUndone() {
        SplitSecrets x = Made.filled();
        for (int i = 0; i < 6; i++) {
            x.undo();
        }
        return x;
    }

    private static void save() {
        int[] bad = {-1, 2, Integer.MIN_VALUE, Integer.MAX_VALUE};
        for (int slot : bad) {
            refusedInFilled("save(" + slot + ")", x -> x.save(slot), BAD_VALUE);
        }
    }

    private static void restore() {
        int[] bad = {-1, 2, Integer.MIN_VALUE, Integer.MAX_VALUE};
        for (int slot : bad) {
            refusedInFilled("restore(" + slot + ")", x -> x.restore(slot), BAD_VALUE);
        }
        refusedInFilled("restore(1) of nothing", x -> x.restore(1), NOT_POSSIBLE);
        changesNothing("restore(0) of nothing", Made::empty, x -> x.restore(0), NOT_POSSIBLE);
    }

    /** "what if; nothing changes", and what there is: calls that are answered leave everything as it is, too. */
    private static void asksChangeNothing() {
        asked("of", x -> x.of(0, 0, 7));
        asked("ofSecret", x -> x.ofSecret(0, 5));
        asked("old", x -> x.old(0, 2, 3));
        asked("count", x -> x.count(15));
        asked("otherwise", x -> x.otherwise(0, 0, 255));
        asked("passing", x -> x.passing(0, 0, 255));
        asked("passes", x -> x.passes(0, 0, 256));
        asked("needed", x -> x.needed(0));
        asked("atRisk", x -> x.atRisk(0));
        asked("ifMerged that catches", x -> x.ifMerged(0));
        asked("ifMerged that lets a lie pass", x -> x.ifMerged(1));
        asked("ifMerged without a lie", x -> x.ifMerged(2));
        asked("fault", SplitSecrets::fault);
    }

    private static void asked(String call, ToIntFunction<SplitSecrets> ask) {
        changesNothing(call, Made::filled, ask, NO_ERROR);
    }
}
