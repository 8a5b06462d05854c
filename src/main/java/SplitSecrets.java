/**
 * Halves of secrets in two stores that never see each other's part.
 * ../shared/DOC.md says, promise by promise, what each public call does.
 */
public final class SplitSecrets {
    public static final int NO_SUCH = -1, BAD_VALUE = -2, BAD_TEXT = -3, TOO_MANY = -4, NOT_POSSIBLE = -5, NONE = -6;
    public static final int OPEN = 0, EACH = 1, OLD = 2;

    private static final int SETTINGS = 3;
    private static final int[] LEAST_OF_SETTING = {1, 0, 0};
    private static final int[] MOST_OF_SETTING = {20, 99, 4};

    private static final int STORES = 2;
    private static final int MOST_SECRETS = 8;
    private static final int MOST_VERSIONS = 5; // the one now and four old ones
    private static final int LAST_VERSION = 999;
    private static final int MOST_BEATS = 9999;
    private static final int MOST_BEATS_AT_ONCE = 99;
    private static final int LAST_SEED = 9999;

    private static final int PARTS = 256; // parts, offsets and secrets are below it
    private static final int TAGS = 257; // tags, their offsets and sums are below it
    private static final int MODULUS = 65537;
    private static final int CAUGHT = 1000; // and the number of the store that catches the lie

    private static final int PAD_LENGTH = 80;
    private static final int MOST_DIGITS = 3;
    private static final int MISSING = -1;
    private static final int PAD_FIGURE = 14, UNDO_FIGURE = 15;

    private static final int MOST_UNDONE = 6;
    private static final int HISTORY_ROWS = MOST_UNDONE + 1;
    private static final int SLOTS = 2;

    private final Stores now;
    private final History history;
    private final Stores[] slots;
    private final boolean[] saved;
    private final Pad pad;
    private final Reader reader;

    public SplitSecrets() {
        now = new Stores();
        history = new History();
        slots = new Stores[SLOTS];
        for (int slot = 0; slot < SLOTS; slot++) {
            slots[slot] = new Stores();
        }
        saved = new boolean[SLOTS];
        pad = new Pad();
        reader = new Reader(pad);
    }

    // ---- changes

    public int set(int setting, int value) {
        history.draft(now);
        return recorded(now.changeSetting(setting, value));
    }

    public int seed(int seed) {
        history.draft(now);
        return recorded(now.changeX(seed));
    }

    public int keep(int secret) {
        history.draft(now);
        return recorded(now.admit(secret));
    }

    public int refresh(int secret) {
        history.draft(now);
        return recorded(now.renew(secret));
    }

    public int burn(int secret) {
        history.draft(now);
        return recorded(now.burnOldVersions(secret));
    }

    public int sleep(int store) {
        history.draft(now);
        return recorded(now.turnSleep(store));
    }

    public int lie(int store, int secret, int offset, int tag) {
        history.draft(now);
        return recorded(now.takeUpLie(store, secret, offset, tag));
    }

    public int merge(int secret) {
        history.draft(now);
        return recorded(now.mergeParts(secret));
    }

    public int steal(int store, int secret, int version) {
        history.draft(now);
        return recorded(now.givePartToThief(store, secret, version));
    }

    public int pass(int beats) {
        history.draft(now);
        return recorded(now.passBeats(beats));
    }

    // ---- what there is

    public int of(int store, int secret, int what) {
        return now.figureOfHalf(store, secret, what);
    }

    public int ofSecret(int secret, int what) {
        return now.figureOfSecret(secret, what);
    }

    public int old(int secret, int rank, int what) {
        return now.figureOfOldVersion(secret, rank, what);
    }

    public int count(int what) {
        if (what == PAD_FIGURE) {
            return pad.length;
        }
        if (what == UNDO_FIGURE) {
            return history.size;
        }
        return now.figure(what);
    }

    // ---- what if; nothing changes

    public int otherwise(int store, int secret, int value) {
        return now.otherPartFor(store, secret, value);
    }

    public int passing(int store, int secret, int offset) {
        return now.tagOffsetThatPasses(store, secret, offset);
    }

    public int passes(int store, int secret, int tag) {
        return now.offsetsThatPass(store, secret, tag);
    }

    public int needed(int secret) {
        return now.partsNeeded(secret);
    }

    public int atRisk(int secret) {
        return now.versionsAtRisk(secret);
    }

    public int ifMerged(int secret) {
        return now.answerOfMerger(secret);
    }

    // ---- texts

    public int put(long characters) {
        return pad.append(characters);
    }

    public int wipe() {
        return pad.clear();
    }

    public int fault() {
        return reader.firstFault();
    }

    public int carryOut() {
        if (reader.firstFault() != NONE) {
            return BAD_TEXT;
        }
        history.draft(now);
        reader.goToStart();
        int carriedOut = 0;
        while (carriedOut < PAD_LENGTH && reader.readsNextOrder() && answerOfOrder() >= 0) {
            carriedOut++;
        }
        pad.clear();
        return recorded(carriedOut);
    }

    // ---- undo, saving

    public int undo() {
        return history.takesBack(now) ? history.size : NOT_POSSIBLE;
    }

    public int save(int slot) {
        if (!isSlot(slot)) {
            return BAD_VALUE;
        }
        slots[slot].copyState(now);
        saved[slot] = true;
        return now.kept;
    }

    public int restore(int slot) {
        if (!isSlot(slot)) {
            return BAD_VALUE;
        }
        if (!saved[slot]) {
            return NOT_POSSIBLE;
        }
        history.draft(now);
        now.copyState(slots[slot]);
        return recorded(now.kept);
    }

    // No change answers a negative number but an error.
    private int recorded(int answer) {
        if (answer >= 0) {
            history.recordDraft();
        }
        return answer;
    }

    private int answerOfOrder() {
        switch (reader.letter) {
            case 'k':
                return now.admit(reader.number);
            case 'r':
                return now.renew(reader.secret);
            case 'u':
                return now.burnOldVersions(reader.secret);
            case 'm':
                return now.mergeParts(reader.secret);
            case 'z':
                return now.turnSleep(reader.store);
            case 'l':
                return now.takeUpLie(reader.store, reader.secret, reader.number, reader.tag);
            case 't':
                return now.givePartToThief(reader.store, reader.secret, versionOfOrder());
            case 'b':
                return now.passBeats(reader.number);
            default:
                return BAD_TEXT;
        }
    }

    private int versionOfOrder() {
        return reader.number == MISSING ? now.versionNow(reader.secret) : reader.number;
    }

    private static boolean isSlot(int slot) {
        return slot >= 0 && slot < SLOTS;
    }

    private static boolean isStore(int store) {
        return store >= 0 && store < STORES;
    }

    private static boolean isPart(int value) {
        return value >= 0 && value < PARTS;
    }

    private static boolean isTag(int value) {
        return value >= 0 && value < TAGS;
    }

    /** What one store has of one secret. Row 0 is the version now, row 1 the latest old one, and so on. */
    private static final class Half {
        private final int[] parts = new int[MOST_VERSIONS];
        private final boolean[] taken = new boolean[MOST_VERSIONS];
        private int tag;
        private int factor;
        private int sum;
        private int offset;
        private int tagOffset;

        private void copyHalf(Half other) {
            for (int row = 0; row < MOST_VERSIONS; row++) {
                parts[row] = other.parts[row];
                taken[row] = other.taken[row];
            }
            tag = other.tag;
            factor = other.factor;
            sum = other.sum;
            offset = other.offset;
            tagOffset = other.tagOffset;
        }

        private int partWith(int anOffset) {
            return (parts[0] + anOffset) % PARTS;
        }

        private int toldPart() {
            return partWith(offset);
        }

        private int toldTag() {
            return (tag + tagOffset) % TAGS;
        }

        private boolean lies() {
            return offset > 0 || tagOffset > 0;
        }

        private int tagDueFor(int partOfOther) {
            return (factor * partOfOther + sum) % TAGS;
        }

        private boolean catches(Half other) {
            return tagDueFor(other.toldPart()) != other.toldTag();
        }

        private void freeRowOfNow() {
            for (int row = MOST_VERSIONS - 1; row > 0; row--) {
                parts[row] = parts[row - 1];
                taken[row] = taken[row - 1];
            }
            taken[0] = false;
        }
    }

    private static final class Secret {
        private final Half first = new Half();
        private final Half second = new Half();
        private int version;
        private int olds;
        private int openAs;
        private int openFor;
        private int caught;
        private int opened;
        // Parts of burnt versions count too, so what thieves have is counted when they take it.
        private int stolen;
        private boolean known;

        private void copySecret(Secret other) {
            first.copyHalf(other.first);
            second.copyHalf(other.second);
            version = other.version;
            olds = other.olds;
            openAs = other.openAs;
            openFor = other.openFor;
            caught = other.caught;
            opened = other.opened;
            stolen = other.stolen;
            known = other.known;
        }

        private Half halfIn(int store) {
            return store == 0 ? first : second;
        }

        private Half halfBeside(int store) {
            return store == 0 ? second : first;
        }

        private int value() {
            return (first.parts[0] + second.parts[0]) % PARTS;
        }

        /** Makes the version now an old one, and answers how many old ones are burnt by that. */
        private int ageKeeping(int mostOlds) {
            first.freeRowOfNow();
            second.freeRowOfNow();
            int all = olds + 1;
            olds = Math.min(all, mostOlds);
            return all - olds;
        }

        private int answerIfMerged() {
            if (first.catches(second)) {
                return CAUGHT;
            }
            if (second.catches(first)) {
                return CAUGHT + 1;
            }
            return (first.toldPart() + second.toldPart()) % PARTS;
        }

        private void open(int value, int beats) {
            openAs = value;
            openFor = beats;
            opened++;
        }

        private int partForThief(int store, int row) {
            Half half = halfIn(store);
            if (!half.taken[row]) {
                half.taken[row] = true;
                stolen++;
            }
            known = known || takenSet(row) == 3;
            return half.parts[row];
        }

        private int takenSet(int row) {
            return (first.taken[row] ? 1 : 0) + (second.taken[row] ? 2 : 0);
        }

        private int rowsAtRisk() {
            int risky = 0;
            for (int row = 0; row <= olds && row < MOST_VERSIONS; row++) {
                if (first.taken[row] != second.taken[row]) {
                    risky++;
                }
            }
            return risky;
        }
    }

    /** Everything that undo() and restore() bring back. An error of its methods changes nothing. */
    private static final class Stores {
        private final Secret[] secrets = new Secret[MOST_SECRETS];
        private final int[] settings = {1, 0, 2};
        private final boolean[] asleep = new boolean[STORES];
        private int kept;
        private int x = 1;
        private int beatsSoFar;
        private int made;
        private int burnt;
        private int caught;
        private int liesPassed;

        private Stores() {
            for (int i = 0; i < MOST_SECRETS; i++) {
                secrets[i] = new Secret();
            }
        }

        private void copyState(Stores other) {
            for (int i = 0; i < MOST_SECRETS; i++) {
                secrets[i].copySecret(other.secrets[i]);
            }
            for (int setting = 0; setting < SETTINGS; setting++) {
                settings[setting] = other.settings[setting];
            }
            for (int store = 0; store < STORES; store++) {
                asleep[store] = other.asleep[store];
            }
            kept = other.kept;
            x = other.x;
            beatsSoFar = other.beatsSoFar;
            made = other.made;
            burnt = other.burnt;
            caught = other.caught;
            liesPassed = other.liesPassed;
        }

        private boolean hasSecret(int number) {
            return number >= 0 && number < kept;
        }

        private boolean hasHalf(int store, int number) {
            return isStore(store) && hasSecret(number);
        }

        private boolean someStoreSleeps() {
            return asleep[0] || asleep[1];
        }

        private int versionNow(int number) {
            return hasSecret(number) ? secrets[number].version : NO_SUCH;
        }

        private int changeSetting(int setting, int value) {
            if (setting < 0 || setting >= SETTINGS) {
                return BAD_VALUE;
            }
            if (value < LEAST_OF_SETTING[setting] || value > MOST_OF_SETTING[setting]) {
                return BAD_VALUE;
            }
            int previous = settings[setting];
            settings[setting] = value;
            return previous;
        }

        private int changeX(int seed) {
            if (seed < 0 || seed > LAST_SEED) {
                return BAD_VALUE;
            }
            int previous = x;
            x = seed;
            return previous;
        }

        private int drawn() {
            x = (75 * x + 74) % MODULUS;
            return x / 16;
        }

        private int admit(int value) {
            if (!isPart(value)) {
                return BAD_VALUE;
            }
            if (kept >= MOST_SECRETS) {
                return TOO_MANY;
            }
            if (someStoreSleeps()) {
                return NOT_POSSIBLE;
            }
            makeVersion(secrets[kept], value);
            kept++;
            return kept - 1;
        }

        private void makeVersion(Secret secret, int value) {
            Half first = secret.first;
            Half second = secret.second;
            first.parts[0] = drawn() % PARTS;
            second.parts[0] = Math.floorMod(value - first.parts[0], PARTS);
            // The check of a part lies in the other store.
            second.factor = drawn() % PARTS + 1;
            second.sum = drawn() % TAGS;
            first.factor = drawn() % PARTS + 1;
            first.sum = drawn() % TAGS;
            first.tag = second.tagDueFor(first.parts[0]);
            second.tag = first.tagDueFor(second.parts[0]);
            secret.version++;
            made++;
        }

        private void makeNextVersion(Secret secret) {
            int value = secret.value();
            burnt += secret.ageKeeping(settings[OLD]);
            makeVersion(secret, value);
        }

        private int renew(int number) {
            if (!hasSecret(number)) {
                return NO_SUCH;
            }
            Secret secret = secrets[number];
            if (someStoreSleeps() || secret.version >= LAST_VERSION) {
                return NOT_POSSIBLE;
            }
            makeNextVersion(secret);
            return secret.version;
        }

        private int burnOldVersions(int number) {
            if (!hasSecret(number)) {
                return NO_SUCH;
            }
            if (someStoreSleeps()) {
                return NOT_POSSIBLE;
            }
            int olds = secrets[number].olds;
            secrets[number].olds = 0;
            burnt += olds;
            return olds;
        }

        private int turnSleep(int store) {
            if (!isStore(store)) {
                return NO_SUCH;
            }
            asleep[store] = !asleep[store];
            return asleep[store] ? 1 : 0;
        }

        private int takeUpLie(int store, int number, int offset, int tagOffset) {
            if (!hasHalf(store, number)) {
                return NO_SUCH;
            }
            if (!isPart(offset) || !isTag(tagOffset)) {
                return BAD_VALUE;
            }
            Half half = secrets[number].halfIn(store);
            int previous = half.offset;
            half.offset = offset;
            half.tagOffset = tagOffset;
            return previous;
        }

        private int answerOfMerger(int number) {
            if (!hasSecret(number)) {
                return NO_SUCH;
            }
            if (someStoreSleeps()) {
                return NOT_POSSIBLE;
            }
            return secrets[number].answerIfMerged();
        }

        private int mergeParts(int number) {
            int answer = answerOfMerger(number);
            if (answer < 0) {
                return answer;
            }
            Secret secret = secrets[number];
            if (answer >= CAUGHT) {
                secret.caught++;
                caught++;
                return answer;
            }
            secret.open(answer, settings[OPEN]);
            if (secret.first.lies() || secret.second.lies()) {
                liesPassed++;
            }
            return answer;
        }

        private int givePartToThief(int store, int number, int version) {
            if (!hasHalf(store, number)) {
                return NO_SUCH;
            }
            Secret secret = secrets[number];
            if (version > secret.version || version < secret.version - secret.olds) {
                return NO_SUCH;
            }
            return secret.partForThief(store, secret.version - version);
        }

        private int passBeats(int beats) {
            if (beats < 1 || beats > MOST_BEATS_AT_ONCE) {
                return BAD_VALUE;
            }
            if (beatsSoFar + beats > MOST_BEATS) {
                return NOT_POSSIBLE;
            }
            int madeBefore = made;
            for (int beat = 0; beat < beats; beat++) {
                passOneBeat();
            }
            return made - madeBefore;
        }

        private void passOneBeat() {
            for (int i = 0; i < kept; i++) {
                secrets[i].openFor = Math.max(0, secrets[i].openFor - 1);
            }
            beatsSoFar++;
            if (settings[EACH] == 0 || beatsSoFar % settings[EACH] != 0 || someStoreSleeps()) {
                return;
            }
            for (int i = 0; i < kept; i++) {
                if (secrets[i].version < LAST_VERSION) {
                    makeNextVersion(secrets[i]);
                }
            }
        }

        private int figureOfHalf(int store, int number, int what) {
            if (!hasHalf(store, number)) {
                return NO_SUCH;
            }
            Half half = secrets[number].halfIn(store);
            switch (what) {
                case 0:
                    return half.parts[0];
                case 1:
                    return half.tag;
                case 2:
                    return half.factor;
                case 3:
                    return half.sum;
                case 4:
                    return half.offset;
                case 5:
                    return half.tagOffset;
                case 6:
                    return half.toldPart();
                case 7:
                    return half.toldTag();
                default:
                    return BAD_VALUE;
            }
        }

        private int figureOfSecret(int number, int what) {
            if (!hasSecret(number)) {
                return NO_SUCH;
            }
            Secret secret = secrets[number];
            switch (what) {
                case 0:
                    return secret.version;
                case 1:
                    return secret.olds;
                case 2:
                    return secret.openFor > 0 ? secret.openAs : NONE;
                case 3:
                    return secret.openFor;
                case 4:
                    return secret.caught;
                case 5:
                    return secret.known ? 1 : 0;
                case 6:
                    return secret.stolen;
                case 7:
                    return secret.opened;
                default:
                    return BAD_VALUE;
            }
        }

        private int figureOfOldVersion(int number, int rank, int what) {
            if (!hasSecret(number)) {
                return NO_SUCH;
            }
            Secret secret = secrets[number];
            if (rank < 0 || rank >= secret.olds) {
                return NO_SUCH;
            }
            int row = rank + 1;
            switch (what) {
                case 0:
                    return secret.version - row;
                case 1:
                    return secret.first.parts[row];
                case 2:
                    return secret.second.parts[row];
                case 3:
                    return secret.takenSet(row);
                default:
                    return BAD_VALUE;
            }
        }

        private int figure(int what) {
            switch (what) {
                case 0:
                    return beatsSoFar;
                case 1:
                    return kept;
                case 2:
                    return setOfOpen();
                case 3:
                    return setOfKnown();
                case 4:
                    return asleep[0] ? 1 : 0;
                case 5:
                    return asleep[1] ? 1 : 0;
                case 6:
                    return made;
                case 7:
                    return burnt;
                case 8:
                    return caught;
                case 9:
                    return liesPassed;
                case 10:
                    return x;
                case 11:
                    return settings[OPEN];
                case 12:
                    return settings[EACH];
                case 13:
                    return settings[OLD];
                default:
                    return BAD_VALUE;
            }
        }

        private int setOfOpen() {
            int set = 0;
            for (int i = 0; i < kept; i++) {
                set |= secrets[i].openFor > 0 ? 1 << i : 0;
            }
            return set;
        }

        private int setOfKnown() {
            int set = 0;
            for (int i = 0; i < kept; i++) {
                set |= secrets[i].known ? 1 << i : 0;
            }
            return set;
        }

        private int otherPartFor(int store, int number, int value) {
            if (!hasHalf(store, number)) {
                return NO_SUCH;
            }
            if (!isPart(value)) {
                return BAD_VALUE;
            }
            return Math.floorMod(value - secrets[number].halfIn(store).parts[0], PARTS);
        }

        private int tagOffsetThatPasses(int store, int number, int offset) {
            if (!hasHalf(store, number)) {
                return NO_SUCH;
            }
            if (!isPart(offset)) {
                return BAD_VALUE;
            }
            Half half = secrets[number].halfIn(store);
            Half checking = secrets[number].halfBeside(store);
            return Math.floorMod(checking.tagDueFor(half.partWith(offset)) - half.tag, TAGS);
        }

        private int offsetsThatPass(int store, int number, int tagOffset) {
            if (!hasHalf(store, number)) {
                return NO_SUCH;
            }
            if (!isTag(tagOffset)) {
                return BAD_VALUE;
            }
            int passing = 0;
            for (int offset = 1; offset < PARTS; offset++) {
                if (tagOffsetThatPasses(store, number, offset) == tagOffset) {
                    passing++;
                }
            }
            return passing;
        }

        private int partsNeeded(int number) {
            if (!hasSecret(number)) {
                return NO_SUCH;
            }
            if (secrets[number].known) {
                return 0;
            }
            return secrets[number].rowsAtRisk() > 0 ? 1 : 2;
        }

        private int versionsAtRisk(int number) {
            return hasSecret(number) ? secrets[number].rowsAtRisk() : NO_SUCH;
        }
    }

    /**
     * The states before the latest changes, in a ring. It has one row more than can be undone, because
     * the state is copied before it is clear whether the call fails, and the oldest one must stay if it does.
     */
    private static final class History {
        private final Stores[] rows = new Stores[HISTORY_ROWS];
        private int oldest;
        private int size;

        private History() {
            for (int row = 0; row < HISTORY_ROWS; row++) {
                rows[row] = new Stores();
            }
        }

        private void draft(Stores state) {
            rows[(oldest + size) % HISTORY_ROWS].copyState(state);
        }

        private void recordDraft() {
            if (size < MOST_UNDONE) {
                size++;
            } else {
                oldest = (oldest + 1) % HISTORY_ROWS;
            }
        }

        private boolean takesBack(Stores state) {
            if (size == 0) {
                return false;
            }
            size--;
            state.copyState(rows[(oldest + size) % HISTORY_ROWS]);
            return true;
        }
    }

    private static final class Pad {
        private final char[] signs = new char[PAD_LENGTH];
        private int length;

        private int append(long characters) {
            int more = signsIn(characters);
            if (more == 0) {
                return BAD_VALUE;
            }
            if (length + more > PAD_LENGTH) {
                return TOO_MANY;
            }
            for (int i = 0; i < more; i++) {
                signs[length + more - 1 - i] = (char) codeIn(characters, i);
            }
            length += more;
            return length;
        }

        private static int codeIn(long characters, int fromLast) {
            return (int) (characters >>> (8 * fromLast)) & 255;
        }

        /** Answers how many signs the number tells, and 0 if it tells none as it should. */
        private static int signsIn(long characters) {
            for (int i = 0; i < 8; i++) {
                int code = codeIn(characters, i);
                if (code == 0) {
                    return characters >>> (8 * i) == 0 ? i : 0;
                }
                if (code < 33 || code > 126) {
                    return 0;
                }
            }
            return 8;
        }

        private int clear() {
            int before = length;
            length = 0;
            return before;
        }

        /** Answers 0, which is no sign of a pad, where the text has ended. */
        private char signAt(int index) {
            return index >= 0 && index < length ? signs[index] : 0;
        }
    }

    /** Reads the pad order by order. Where something is missing it stays in front of it: that is the fault. */
    private static final class Reader {
        private final Pad pad;
        private int at;
        private char letter;
        private int store;
        private int secret;
        private int number;
        private int tag;

        private Reader(Pad pad) {
            this.pad = pad;
        }

        private void goToStart() {
            at = 0;
        }

        private int firstFault() {
            goToStart();
            for (int orders = 0; orders < PAD_LENGTH; orders++) {
                if (!readsNextOrder()) {
                    return at;
                }
                if (at == pad.length) {
                    return NONE;
                }
            }
            return at;
        }

        private boolean readsNextOrder() {
            if (at > 0 && !reads(';')) {
                return false;
            }
            letter = pad.signAt(at);
            switch (letter) {
                case 'k':
                case 'b':
                    at++;
                    return readsNumber();
                case 'r':
                case 'u':
                case 'm':
                    at++;
                    return readsSecret();
                case 'z':
                    at++;
                    return readsStore();
                case 'l':
                    at++;
                    return readsStore() && readsSecret() && readsOffsets();
                case 't':
                    at++;
                    return readsStore() && readsSecret() && readsVersion();
                default:
                    return false;
            }
        }

        private boolean reads(char sign) {
            if (pad.signAt(at) != sign) {
                return false;
            }
            at++;
            return true;
        }

        private boolean readsStore() {
            char sign = pad.signAt(at);
            if (sign != 'a' && sign != 'b') {
                return false;
            }
            at++;
            store = sign - 'a';
            return true;
        }

        private boolean readsSecret() {
            secret = digitRead();
            return secret != MISSING;
        }

        private boolean readsNumber() {
            number = numberRead();
            return number != MISSING;
        }

        private boolean readsOffsets() {
            if (!reads('+') || !readsNumber()) {
                return false;
            }
            tag = 0;
            if (!reads(',')) {
                return true;
            }
            tag = numberRead();
            return tag != MISSING;
        }

        private boolean readsVersion() {
            number = MISSING;
            return !reads('.') || readsNumber();
        }

        private int digitRead() {
            char sign = pad.signAt(at);
            if (sign < '0' || sign > '9') {
                return MISSING;
            }
            at++;
            return sign - '0';
        }

        // It stops behind a leading 0 and behind three digits: no digit can stand behind a number, so one more is the fault.
        private int numberRead() {
            int value = digitRead();
            for (int digits = 1; digits < MOST_DIGITS && value > 0; digits++) {
                int next = digitRead();
                if (next == MISSING) {
                    return value;
                }
                value = 10 * value + next;
            }
            return value;
        }
    }
}
