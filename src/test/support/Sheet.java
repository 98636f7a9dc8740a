import java.util.function.ToIntFunction;

/** What the tests of the boundary cases share: a sentence of the document, the calls due by it, and how many were wrong. */
final class Sheet {
    static final int NONE = -1, UNKNOWN = -2, OUTSIDE = -3, NOT = -4, FULL = -5;
    static final int LOW = Integer.MIN_VALUE, HIGH = Integer.MAX_VALUE;

    private String sentence = "";
    private int asked = 0;
    private int wrong = 0;

    /** From here on, what is due is due by this sentence. */
    void sentence(String words) {
        sentence = words;
    }

    void due(String call, int got, int want) {
        asked++;
        if (got != want) {
            wrong++;
            System.out.println("'" + sentence + "': " + call + " answered " + got + ", due is " + want);
        }
    }

    /** A call that is refused in a state, and that leaves everything as it was. */
    void refused(State state, String call, int want, ToIntFunction<WhoseWork> deed) {
        due("in " + state.name() + ", " + call, deed.applyAsInt(state.made()), want);
        unchanged(state, call, deed);
    }

    /** The same, whatever state the object is in. */
    void refusedAlways(String call, int want, ToIntFunction<WhoseWork> deed) {
        for (State state : State.ALL) {
            refused(state, call, want, deed);
        }
    }

    /** A call behind which nothing is other than it was, in any answer that can be had. */
    void unchanged(State state, String call, ToIntFunction<WhoseWork> deed) {
        asked++;
        String change = state.changeBy(deed);
        if (!change.isEmpty()) {
            wrong++;
            System.out.println("'" + sentence + "': in " + state.name() + ", " + call + " changed " + change);
        }
    }

    void end() {
        System.out.println(wrong == 0 ? "all " + asked + " are as due" : wrong + " of " + asked + " are not as due");
        if (wrong != 0) {
            System.exit(1);
        }
    }

    /** Writes a text, eight bytes a call; what the last call answered. */
    static int tell(WhoseWork x, String text) {
        int answer = 0;
        for (int from = 0; from < text.length(); from += 8) {
            String part = text.substring(from, Math.min(text.length(), from + 8));
            answer = x.write(packed(part), part.length());
        }
        return answer;
    }

    static long packed(String text) {
        long bytes = 0;
        for (int i = 0; i < text.length(); i++) {
            bytes |= (long) text.charAt(i) << 8 * i;
        }
        return bytes;
    }

    static WhoseWork told(String text) {
        WhoseWork x = new WhoseWork();
        tell(x, text);
        return x;
    }

    /** A new object under bounds; each text is told and made bounds. */
    static WhoseWork under(String... texts) {
        WhoseWork x = new WhoseWork();
        enact(x, texts);
        return x;
    }

    static void enact(WhoseWork x, String... texts) {
        for (String text : texts) {
            tell(x, text);
            if (x.bounds() < 0) {
                throw new IllegalStateException("not made bounds: " + text);
            }
        }
    }

    /** One line so many times, as one text. */
    static String lines(String line, int many) {
        return (line + ";").repeat(many - 1) + line;
    }

    static int work(int verb, int stuff, int depth) {
        return 40 * verb + 10 * stuff + depth;
    }

    /** Guilds of a way told by hand, three bits each. */
    static int guilds(int... row) {
        int told = 0;
        for (int i = 0; i < row.length; i++) {
            told |= row[i] << 3 * i;
        }
        return told;
    }
}
