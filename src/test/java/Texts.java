/** Puts texts on the pad, eight characters a call. */
final class Texts {
    private Texts() {
    }

    static long number(String characters) {
        long number = 0;
        for (char sign : characters.toCharArray()) {
            number = number << 8 | sign;
        }
        return number;
    }

    static void put(SplitSecrets x, String text) {
        for (int from = 0; from < text.length(); from += 8) {
            x.put(number(text.substring(from, Math.min(text.length(), from + 8))));
        }
    }

    /** Empties the pad, puts the text, and answers its fault. */
    static int faultOf(SplitSecrets x, String text) {
        x.wipe();
        put(x, text);
        return x.fault();
    }

    static int carriedOut(SplitSecrets x, String text) {
        x.wipe();
        put(x, text);
        return x.carryOut();
    }
}
