import java.util.ArrayDeque;
import java.util.ArrayList;
import java.util.Deque;
import java.util.HashSet;
import java.util.List;
import java.util.Set;
import java.util.TreeMap;
import java.util.regex.Matcher;
import java.util.regex.Pattern;

/**
 * The document once more, written for plainness with the Java library and apart from the program,
 * so that a slip in one of them shows as a difference.
 */
final class Model {
    private static final String NUMBER = "(?:0|[1-9][0-9]{0,2})";
    private static final String ORDER = "(?:[kb]" + NUMBER + "|[rum][0-9]|z[ab]|l[ab][0-9]\\+" + NUMBER + "(?:," + NUMBER + ")?|t[ab][0-9](?:\\." + NUMBER + ")?)";
    private static final Pattern TEXT = Pattern.compile(ORDER + "(?:;" + ORDER + ")*");

    /** Of each version there is: {part 0, part 1}. */
    static final class Kept {
        TreeMap<Integer, int[]> versions = new TreeMap<>();
        Set<List<Integer>> stolen = new HashSet<>(); // version and store
        int secret;
        int[] tags = new int[2], factors = new int[2], sums = new int[2]; // numbered by the store whose part they are for
        int[] offsets = new int[2], tagOffsets = new int[2];
        int open = -6, beats, caught, opened;

        Kept copy() {
            Kept c = new Kept();
            c.versions.putAll(versions);
            c.stolen.addAll(stolen);
            c.secret = secret;
            c.tags = tags.clone();
            c.factors = factors.clone();
            c.sums = sums.clone();
            c.offsets = offsets.clone();
            c.tagOffsets = tagOffsets.clone();
            c.open = open;
            c.beats = beats;
            c.caught = caught;
            c.opened = opened;
            return c;
        }

        int version() {
            return versions.lastKey();
        }

        int part(int store) {
            return versions.lastEntry().getValue()[store];
        }

        int told(int store) {
            return (part(store) + offsets[store]) % 256;
        }

        boolean looksTrue(int store) {
            return (factors[store] * told(store) + sums[store]) % 257 == (tags[store] + tagOffsets[store]) % 257;
        }

        int have(int version) {
            return (stolen.contains(List.of(version, 0)) ? 1 : 0) + (stolen.contains(List.of(version, 1)) ? 2 : 0);
        }

        boolean known() {
            for (List<Integer> one : stolen) {
                if (have(one.get(0)) == 3) {
                    return true;
                }
            }
            return false;
        }

        int risky() {
            int n = 0;
            for (int version : versions.keySet()) {
                n += have(version) == 1 || have(version) == 2 ? 1 : 0;
            }
            return n;
        }
    }

    static final class State {
        List<Kept> all = new ArrayList<>();
        int[] settings = {1, 0, 2};
        boolean[] asleep = new boolean[2];
        int x = 1, beats, made, burnt, caught, passed;

        State copy() {
            State c = new State();
            for (Kept one : all) {
                c.all.add(one.copy());
            }
            c.settings = settings.clone();
            c.asleep = asleep.clone();
            c.x = x;
            c.beats = beats;
            c.made = made;
            c.burnt = burnt;
            c.caught = caught;
            c.passed = passed;
            return c;
        }
    }

    private State s = new State();
    private Deque<State> history = new ArrayDeque<>();
    private final State[] slots = new State[2];
    private String pad = "";

    private int draw(int outOf) {
        s.x = (75 * s.x + 74) % 65537;
        return s.x / 16 % outOf;
    }

    private boolean sleeping() {
        return s.asleep[0] || s.asleep[1];
    }

    private boolean none(int secret) {
        return secret < 0 || secret >= s.all.size();
    }

    private boolean none(int store, int secret) {
        return store != 0 && store != 1 || none(secret);
    }

    private void make(Kept one, int version) {
        int part = draw(256);
        one.versions.put(version, new int[] {part, (one.secret + 256 - part) % 256});
        for (int store = 0; store < 2; store++) {
            one.factors[store] = draw(256) + 1;
            one.sums[store] = draw(257);
            one.tags[store] = (one.factors[store] * one.part(store) + one.sums[store]) % 257;
        }
        s.made++;
        while (one.versions.size() - 1 > s.settings[2]) {
            one.versions.pollFirstEntry();
            s.burnt++;
        }
    }

    /** A call that is a change: its answer; the state before is recorded if it is no error. */
    int change(String call, int... a) {
        State before = s.copy();
        int answer;
        if (call.equals("restore")) {
            if (a[0] < 0 || a[0] > 1) {
                return -2;
            }
            if (slots[a[0]] == null) {
                return -5;
            }
            s = slots[a[0]].copy();
            answer = s.all.size();
        } else if (call.equals("carryOut")) {
            if (fault() != -6) {
                return -3;
            }
            answer = 0;
            for (String order : pad.split(";")) {
                if (order(order) < 0) {
                    break;
                }
                answer++;
            }
            pad = "";
        } else {
            answer = bare(call, a);
        }
        if (answer >= -5 && answer < 0) {
            return answer;
        }
        history.addLast(before);
        if (history.size() > 6) {
            history.removeFirst();
        }
        return answer;
    }

    private int order(String order) {
        int store = order.length() > 1 && order.charAt(1) == 'b' ? 1 : 0;
        int digit = order.length() > 2 ? order.charAt(2) - '0' : 0;
        String rest = order.substring(1);
        switch (order.charAt(0)) {
            case 'k':
                return bare("keep", Integer.parseInt(rest));
            case 'r':
                return bare("refresh", Integer.parseInt(rest));
            case 'u':
                return bare("burn", Integer.parseInt(rest));
            case 'm':
                return bare("merge", Integer.parseInt(rest));
            case 'z':
                return bare("sleep", store);
            case 'b':
                return bare("pass", Integer.parseInt(rest));
            case 'l':
                String[] offsets = order.substring(4).split(",");
                return bare("lie", store, digit, Integer.parseInt(offsets[0]), offsets.length > 1 ? Integer.parseInt(offsets[1]) : 0);
            default:
                if (order.length() > 3) {
                    return bare("steal", store, digit, Integer.parseInt(order.substring(4)));
                }
                return none(digit) ? -1 : bare("steal", store, digit, s.all.get(digit).version());
        }
    }

    private int bare(String call, int... a) {
        switch (call) {
            case "set":
                return set(a[0], a[1]);
            case "seed":
                if (a[0] < 0 || a[0] > 9999) {
                    return -2;
                }
                int was = s.x;
                s.x = a[0];
                return was;
            case "keep":
                return keep(a[0]);
            case "refresh":
                if (none(a[0])) {
                    return -1;
                }
                Kept one = s.all.get(a[0]);
                if (sleeping() || one.version() + 1 > 999) {
                    return -5;
                }
                make(one, one.version() + 1);
                return one.version();
            case "burn":
                if (none(a[0])) {
                    return -1;
                }
                if (sleeping()) {
                    return -5;
                }
                int olds = s.all.get(a[0]).versions.size() - 1;
                s.all.get(a[0]).versions.headMap(s.all.get(a[0]).version()).clear();
                s.burnt += olds;
                return olds;
            case "sleep":
                if (a[0] != 0 && a[0] != 1) {
                    return -1;
                }
                s.asleep[a[0]] ^= true;
                return s.asleep[a[0]] ? 1 : 0;
            case "lie":
                return lie(a[0], a[1], a[2], a[3]);
            case "merge":
                return merge(a[0]);
            case "steal":
                if (none(a[0], a[1]) || !s.all.get(a[1]).versions.containsKey(a[2])) {
                    return -1;
                }
                s.all.get(a[1]).stolen.add(List.of(a[2], a[0]));
                return s.all.get(a[1]).versions.get(a[2])[a[0]];
            default:
                return pass(a[0]);
        }
    }

    private int set(int setting, int value) {
        int[][] ranges = {{1, 20}, {0, 99}, {0, 4}};
        if (setting < 0 || setting > 2 || value < ranges[setting][0] || value > ranges[setting][1]) {
            return -2;
        }
        int was = s.settings[setting];
        s.settings[setting] = value;
        return was;
    }

    private int keep(int secret) {
        if (secret < 0 || secret > 255) {
            return -2;
        }
        if (s.all.size() == 8) {
            return -4;
        }
        if (sleeping()) {
            return -5;
        }
        Kept one = new Kept();
        one.secret = secret;
        s.all.add(one);
        make(one, 1);
        return s.all.size() - 1;
    }

    private int lie(int store, int secret, int offset, int tag) {
        if (none(store, secret)) {
            return -1;
        }
        if (offset < 0 || offset > 255 || tag < 0 || tag > 256) {
            return -2;
        }
        Kept one = s.all.get(secret);
        int was = one.offsets[store];
        one.offsets[store] = offset;
        one.tagOffsets[store] = tag;
        return was;
    }

    int ifMerged(int secret) {
        if (none(secret)) {
            return -1;
        }
        if (sleeping()) {
            return -5;
        }
        Kept one = s.all.get(secret);
        if (!one.looksTrue(1)) {
            return 1000;
        }
        return one.looksTrue(0) ? (one.told(0) + one.told(1)) % 256 : 1001;
    }

    private int merge(int secret) {
        int answer = ifMerged(secret);
        if (answer < 0) {
            return answer;
        }
        Kept one = s.all.get(secret);
        if (answer >= 1000) {
            one.caught++;
            s.caught++;
        } else {
            one.open = answer;
            one.beats = s.settings[0];
            one.opened++;
            s.passed += one.offsets[0] + one.offsets[1] + one.tagOffsets[0] + one.tagOffsets[1] > 0 ? 1 : 0;
        }
        return answer;
    }

    private int pass(int beats) {
        if (beats < 1 || beats > 99) {
            return -2;
        }
        if (s.beats + beats > 9999) {
            return -5;
        }
        int before = s.made;
        for (int i = 0; i < beats; i++) {
            for (Kept one : s.all) {
                if (one.beats > 0 && --one.beats == 0) {
                    one.open = -6;
                }
            }
            s.beats++;
            if (s.settings[1] > 0 && s.beats % s.settings[1] == 0 && !sleeping()) {
                for (Kept one : s.all) {
                    if (one.version() < 999) {
                        make(one, one.version() + 1);
                    }
                }
            }
        }
        return s.made - before;
    }

    int of(int store, int secret, int what) {
        if (none(store, secret)) {
            return -1;
        }
        Kept one = s.all.get(secret);
        int[] figures = {
            one.part(store), one.tags[store], one.factors[1 - store], one.sums[1 - store], one.offsets[store],
            one.tagOffsets[store], one.told(store), (one.tags[store] + one.tagOffsets[store]) % 257,
        };
        return figure(figures, what);
    }

    int ofSecret(int secret, int what) {
        if (none(secret)) {
            return -1;
        }
        Kept one = s.all.get(secret);
        int[] figures = {
            one.version(), one.versions.size() - 1, one.open, one.beats, one.caught, one.known() ? 1 : 0,
            one.stolen.size(), one.opened,
        };
        return figure(figures, what);
    }

    int old(int secret, int rank, int what) {
        if (none(secret)) {
            return -1;
        }
        Kept one = s.all.get(secret);
        List<Integer> olds = new ArrayList<>(one.versions.headMap(one.version(), false).descendingKeySet());
        if (rank < 0 || rank >= olds.size()) {
            return -1;
        }
        int version = olds.get(rank);
        int[] parts = one.versions.get(version);
        return figure(new int[] {version, parts[0], parts[1], one.have(version)}, what);
    }

    int count(int what) {
        int open = 0;
        int known = 0;
        for (int i = 0; i < s.all.size(); i++) {
            open |= s.all.get(i).open == -6 ? 0 : 1 << i;
            known |= s.all.get(i).known() ? 1 << i : 0;
        }
        int[] figures = {
            s.beats, s.all.size(), open, known, s.asleep[0] ? 1 : 0, s.asleep[1] ? 1 : 0, s.made, s.burnt, s.caught,
            s.passed, s.x, s.settings[0], s.settings[1], s.settings[2], pad.length(), history.size(),
        };
        return figure(figures, what);
    }

    private static int figure(int[] figures, int what) {
        return what < 0 || what >= figures.length ? -2 : figures[what];
    }

    int otherwise(int store, int secret, int value) {
        if (none(store, secret)) {
            return -1;
        }
        if (value < 0 || value > 255) {
            return -2;
        }
        for (int part = 0; part < 256; part++) {
            if ((part + s.all.get(secret).part(store)) % 256 == value) {
                return part;
            }
        }
        throw new IllegalStateException();
    }

    int passing(int store, int secret, int offset) {
        if (none(store, secret)) {
            return -1;
        }
        if (offset < 0 || offset > 255) {
            return -2;
        }
        for (int tag = 0; tag < 257; tag++) {
            if (wouldPass(store, secret, offset, tag)) {
                return tag;
            }
        }
        throw new IllegalStateException();
    }

    private boolean wouldPass(int store, int secret, int offset, int tag) {
        Kept one = s.all.get(secret).copy();
        one.offsets[store] = offset;
        one.tagOffsets[store] = tag;
        return one.looksTrue(store);
    }

    int passes(int store, int secret, int tag) {
        if (none(store, secret)) {
            return -1;
        }
        if (tag < 0 || tag > 256) {
            return -2;
        }
        int n = 0;
        for (int offset = 1; offset < 256; offset++) {
            n += wouldPass(store, secret, offset, tag) ? 1 : 0;
        }
        return n;
    }

    int needed(int secret) {
        return none(secret) ? -1 : s.all.get(secret).known() ? 0 : s.all.get(secret).risky() > 0 ? 1 : 2;
    }

    int atRisk(int secret) {
        return none(secret) ? -1 : s.all.get(secret).risky();
    }

    int put(long characters) {
        StringBuilder more = new StringBuilder();
        for (long left = characters; left != 0; left >>>= 8) {
            long code = left & 255;
            if (code < 33 || code > 126) {
                return -2;
            }
            more.insert(0, (char) code);
        }
        if (more.length() == 0) {
            return -2;
        }
        if (pad.length() + more.length() > 80) {
            return -4;
        }
        pad += more;
        return pad.length();
    }

    int wipe() {
        int was = pad.length();
        pad = "";
        return was;
    }

    /** A beginning of the text can stand if more characters could make a text of it: the matcher ran into its end. */
    int fault() {
        for (int end = 1; end <= pad.length(); end++) {
            Matcher matcher = TEXT.matcher(pad.substring(0, end));
            if (!matcher.matches() && !matcher.hitEnd()) {
                return end - 1;
            }
        }
        return TEXT.matcher(pad).matches() ? -6 : pad.length();
    }

    int undo() {
        if (history.isEmpty()) {
            return -5;
        }
        s = history.removeLast();
        return history.size();
    }

    int save(int slot) {
        if (slot < 0 || slot > 1) {
            return -2;
        }
        slots[slot] = s.copy();
        return s.all.size();
    }
}
