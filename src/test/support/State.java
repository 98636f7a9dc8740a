import java.util.HashMap;
import java.util.List;
import java.util.Map;
import java.util.function.Consumer;
import java.util.function.ToIntFunction;

/**
 * A state that an object can be brought to again and again, and looks at all of it. A look may spoil the object, as each
 * begins with a new one; no object is asked more than the 512 calls that the document promises.
 */
final class State {
    /** What tells a look's answers from one another. */
    private interface Look {
        void at(WhoseWork x, StringBuilder seen);
    }

    /** 160 bytes, eight lines. */
    static final String FULL_TEXT = "guild 1 beside 5 do 2;grant 0 of 1 to 3;guild 5 only do 4;guild 2 only to 7;guild 3 may do 1;"
        + "grant 4 do 3 of 2;guild 0 may all;guild 5 beside 0 do 5 of 3 from 4";

    /** A new object: nothing told. */
    static final State EMPTY = new State("a new object", "grant 0 all", x -> { });

    /** Some of everything, a text that breaks off, thing 2 with all its steps. */
    static final State SOME = new State("some of everything", " 5 to 6;grant 2 of 1", State::tellSome);

    /** As much of everything as there may be, the text being one that could be bounds. */
    static final State CRAMMED = new State("as much as there may be", "", x -> {
        tellMuch(x);
        Sheet.tell(x, FULL_TEXT);
    });

    static final List<State> ALL = List.of(EMPTY, SOME, CRAMMED);

    private static final int CODINGS = 4;

    private final String name;
    private final String restOfText;
    private final Consumer<WhoseWork> script;
    private final Map<String, Look> looks = new HashMap<>();
    private final Map<String, String> seenUntouched = new HashMap<>();

    State(String name, String restOfText, Consumer<WhoseWork> script) {
        this.name = name;
        this.restOfText = restOfText;
        this.script = script;
        looks.put("numbers, cells of bounds, prices", State::lookAtNumbers);
        looks.put("the text", this::lookAtText);
        looks.put("seizures", State::lookAtSeizures);
        for (int guild = 0; guild < 6; guild++) {
            int g = guild;
            looks.put("what decides for guild " + g, (x, seen) -> lookAtWhy(x, g, seen));
            looks.put("what guild " + g + " may", (x, seen) -> lookAtMay(x, g, seen));
        }
        for (int coding = 0; coding < CODINGS; coding++) {
            int c = coding;
            looks.put("steps of the first things, by coding " + c, (x, seen) -> lookAtSteps(x, c, 0, seen));
            looks.put("steps of the last things, by coding " + c, (x, seen) -> lookAtSteps(x, c, 3, seen));
            looks.put("year and seizures, by coding " + c, (x, seen) -> lookAtWorks(x, c, seen));
        }
    }

    String name() {
        return name;
    }

    WhoseWork made() {
        WhoseWork x = new WhoseWork();
        script.accept(x);
        return x;
    }

    /** What a call changes, in words; empty, if nothing. */
    String changeBy(ToIntFunction<WhoseWork> deed) {
        StringBuilder changed = new StringBuilder();
        for (Map.Entry<String, Look> look : looks.entrySet()) {
            String before = seenUntouched.computeIfAbsent(look.getKey(), key -> seen(look.getValue(), made()));
            WhoseWork x = made();
            deed.applyAsInt(x);
            if (!seen(look.getValue(), x).equals(before)) {
                changed.append(changed.length() == 0 ? "" : "; ").append(look.getKey());
            }
        }
        return changed.toString();
    }

    private static String seen(Look look, WhoseWork x) {
        StringBuilder seen = new StringBuilder();
        look.at(x, seen);
        return seen.toString();
    }

    // ---- looks

    private static void add(StringBuilder seen, int answer) {
        seen.append(answer).append(' ');
    }

    private static void lookAtNumbers(WhoseWork x, StringBuilder seen) {
        for (int what = 0; what <= 9; what++) {
            add(seen, x.count(what));
        }
        lookAtCells(x, seen);
        for (int guild = 0; guild < 6; guild++) {
            for (int verb = 0; verb < 6; verb++) {
                add(seen, x.price(guild, verb, 50));
            }
            add(seen, x.days(guild, 5));
            add(seen, x.yearly(guild));
            add(seen, x.alone(guild));
        }
        add(seen, x.carry(50));
    }

    private static void lookAtCells(WhoseWork x, StringBuilder seen) {
        int bounds = x.count(0);
        for (int bound = 0; bound < bounds; bound++) {
            for (int what = 0; what < 7; what++) {
                add(seen, x.bound(bound, what));
            }
        }
    }

    /** The bytes can be seen only as the bounds that they become, with room for these and the rest of the text told. */
    private void lookAtText(WhoseWork x, StringBuilder seen) {
        add(seen, x.fault());
        for (int i = 0; i < 16; i++) {
            x.strike(0);
        }
        Sheet.tell(x, restOfText);
        add(seen, x.fault());
        add(seen, x.bounds());
        lookAtCells(x, seen);
    }

    private static void lookAtSeizures(WhoseWork x, StringBuilder seen) {
        int many = x.count(2);
        for (int left = x.count(0); left >= 0; left--) {
            for (int i = -1; i < many; i += left % 2 == 0 ? 1 : 2) {
                add(seen, x.right(i));
            }
            x.strike(left - 1);
        }
    }

    private static void lookAtWhy(WhoseWork x, int guild, StringBuilder seen) {
        for (int work = 0; work < 240; work++) {
            add(seen, x.why(guild, work));
        }
    }

    private static void lookAtMay(WhoseWork x, int guild, StringBuilder seen) {
        for (int work = 0; work < 240; work++) {
            add(seen, x.may(guild, work));
        }
    }

    /** Other bounds, by which guild 0 may all and each other guild one verb, stuff or depth. */
    private static void code(WhoseWork x, int coding) {
        for (int bound = x.count(0) - 1; bound >= 0; bound--) {
            x.strike(bound);
        }
        StringBuilder text = new StringBuilder("guild 0 may all");
        for (int guild = 1; guild < 6; guild++) {
            text.append(";guild ").append(guild).append(" may ").append(codedReach(coding, guild - 1));
        }
        x.erase();
        Sheet.enact(x, text.toString());
    }

    private static String codedReach(int coding, int value) {
        switch (coding) {
            case 0: return "do " + value;
            case 1: return "of " + Math.min(3, value);
            case 2: return "from " + value + " to " + value;
            default: return "from " + (value + 5) + " to " + (value + 5);
        }
    }

    private static void lookAtSteps(WhoseWork x, int coding, int first, StringBuilder seen) {
        code(x, coding);
        for (int thing = first; thing < first + 3; thing++) {
            int steps = x.count(4 + thing);
            for (int step = 0; step < steps; step++) {
                add(seen, x.judge(thing, 0, 1 << step));
                for (int guild = 1; guild < 6; guild++) {
                    add(seen, x.judge(thing, guild << 3 * step, 0));
                    add(seen, x.judge(thing, guild << 3 * step, 1 << step));
                }
            }
        }
    }

    private static void lookAtWorks(WhoseWork x, int coding, StringBuilder seen) {
        code(x, coding);
        for (int guild = 0; guild < 6; guild++) {
            add(seen, x.yearly(guild));
        }
        for (int i = 0; i < x.count(2); i++) {
            add(seen, x.right(i));
        }
    }

    // ---- scripts

    private static void tellSome(WhoseWork x) {
        Sheet.enact(x,
            "guild 0 may all;guild 0 not do 1 to 4;guild 1 only do 2 of 1;guild 2 beside 3 do 3 from 2;grant 4 of 0 from 7",
            "guild 3 may do 2;guild 5 only do 2 from 8;guild 1 may do 4 of 3 from 5 to 5");
        Sheet.tell(x, "guild 3 may do 4 of 2 from");
        x.step(0, 0, 41);
        x.step(0, 123, Sheet.NONE);
        x.step(0, 3, 239);
        x.step(1, 99, Sheet.NONE);
        for (int i = 0; i < 8; i++) {
            x.step(2, i, 3 * i);
        }
        x.price(0, 0, 0);
        x.price(5, 5, 99);
        x.price(2, 3, 17);
        x.days(0, 9);
        x.days(4, 2);
        x.carry(7);
        x.seize(0, 41, 1);
        x.seize(0, 41, 2);
        x.seize(4, 9, 8);
        x.seize(3, 95, 6);
        for (int i = 0; i < 5; i++) {
            x.year(47 * i);
        }
    }

    private static void tellMuch(WhoseWork x) {
        Sheet.enact(x,
            "guild 0 may all;guild 1 may do 1;guild 2 only of 2 to 5;guild 3 beside 4 do 3;grant 5 do 5;guild 0 not do 4;guild 1 only of 2",
            "guild 4 may from 8;guild 2 not do 2;guild 3 may of 3;grant 1 of 0 to 0;guild 5 beside 2 do 2;guild 0 only do 1 of 1",
            "guild 4 not do 0;guild 4 beside 0 do 4 of 2 from 5 to 6;guild 2 may do 0;guild 5 may all;grant 3 do 1 of 3 from 9;guild 1 not do 5 of 1;guild 0 may do 4");
        for (int thing = 0; thing < 6; thing++) {
            for (int i = 0; i < 8; i++) {
                x.step(thing, (37 * i + 11 * thing) % 240, i % 3 == 0 ? Sheet.NONE : (53 * i + 7 * thing) % 240);
            }
        }
        for (int guild = 0; guild < 6; guild++) {
            x.price(guild, 5 - guild, 99 - guild);
            x.days(guild, 9 - guild);
        }
        x.carry(99);
        for (int i = 0; i < 16; i++) {
            x.seize(i % 6, 14 * i + 3, i + 4);
        }
        for (int i = 0; i < 24; i++) {
            x.year(10 * i % 239);
        }
    }
}
