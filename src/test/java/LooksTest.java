import java.util.function.ToIntFunction;

/** The other tests trust State to see any change: here each call that changes something is seen to do so. */
public final class LooksTest {
    private static int asked = 0;
    private static int wrong = 0;

    public static void main(String[] args) {
        boundsAndText();
        steps();
        prices();
        seizuresAndYear();
        System.out.println(wrong == 0 ? "all " + asked + " changes were seen" : wrong + " of " + asked + " changes were not seen");
        if (wrong != 0) {
            System.exit(1);
        }
    }

    private static void seen(State state, String call, ToIntFunction<WhoseWork> deed) {
        asked++;
        if (state.changeBy(deed).isEmpty()) {
            wrong++;
            System.out.println("in " + state.name() + ", the change by " + call + " was not seen");
        }
    }

    private static void boundsAndText() {
        for (State state : State.ALL) {
            seen(state, "writing or erasing", x -> x.write(' ', 1) < 0 ? x.erase() : 0);
            for (int i = 0; i < state.made().count(0); i++) {
                int bound = i;
                seen(state, "strike(" + i + ")", x -> x.strike(bound));
            }
        }
        // another byte in the place of one, at the front, in the middle, at the end
        String text = State.FULL_TEXT;
        for (int i = 0; i < text.length(); i++) {
            int digit = text.charAt(i);
            if (digit >= '0' && digit <= '9') {
                String other = text.substring(0, i) + (digit == '0' ? '1' : '0') + text.substring(i + 1);
                seen(State.CRAMMED, "another number at " + i, x -> x.erase() + Sheet.tell(x, other));
            }
        }
        seen(State.EMPTY, "a bound", x -> Sheet.tell(x, "guild 0 not all") + x.bounds());
        seen(State.SOME, "the text made bounds", x -> Sheet.tell(x, " 5") + x.bounds());
    }

    private static void steps() {
        for (State state : State.ALL) {
            WhoseWork made = state.made();
            for (int i = 0; i < 6; i++) {
                int thing = i;
                if (made.count(4 + i) < 8) {
                    seen(state, "step(" + i + ", 0, NONE)", x -> x.step(thing, 0, -1));
                }
                if (made.count(4 + i) > 0) {
                    seen(state, "clear(" + i + ")", x -> x.clear(thing));
                }
            }
        }
        // as many steps, but another work in one of them, or another one instead
        for (int work = 0; work < 240; work++) {
            int w = work;
            if (work != 99) {
                seen(State.SOME, "the step of thing 1 being " + work, x -> x.clear(1) + x.step(1, w, -1));
            }
            seen(State.SOME, "the step of thing 1 having another work, " + work, x -> x.clear(1) + x.step(1, 99, w));
        }
    }

    private static void prices() {
        for (State state : State.ALL) {
            for (int g = 0; g < 6; g++) {
                int guild = g;
                for (int v = 0; v < 6; v++) {
                    int verb = v;
                    seen(state, "price(" + g + ", " + v + ", 42)", x -> x.price(guild, verb, 42));
                }
                seen(state, "days(" + g + ", 3)", x -> x.days(guild, 3) == 3 ? x.days(guild, 8) : 0);
            }
            seen(state, "carry(42)", x -> x.carry(42));
        }
    }

    private static void seizuresAndYear() {
        seen(State.EMPTY, "seize(0, 0, 0)", x -> x.seize(0, 0, 0));
        seen(State.SOME, "seize(5, 239, 8)", x -> x.seize(5, 239, 8));
        seen(State.EMPTY, "year(0)", x -> x.year(0));
        seen(State.SOME, "year(239)", x -> x.year(239));
    }
}
