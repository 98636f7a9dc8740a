/** The boundary cases of what BOUNDS take and give, of SEIZURES and of the YEAR: promises 26 to 32. */
public final class PastEdgesTest {
    private static final int NONE = Sheet.NONE, UNKNOWN = Sheet.UNKNOWN, OUTSIDE = Sheet.OUTSIDE, FULL = Sheet.FULL;
    private static final int LOW = Sheet.LOW, HIGH = Sheet.HIGH;
    private static final int[] NO_GUILDS = {-1, 6, 7, LOW, HIGH};
    private static final int[] NO_WORKS = {-1, 240, 241, 256, LOW, HIGH};
    private static final int[] SIZES = {0, 8, 20};
    private static final Sheet sheet = new Sheet();

    public static void main(String[] args) {
        takesRefused();
        takenAndGiven();
        takenOfNone();
        idleOnes();
        idleBesideWhom();
        idleOfMany();
        seizuresRefused();
        seizuresByHowMany();
        seizuresAtMost();
        rightRefused();
        rightByTheFirst();
        rightByThoseNow();
        firstWrong();
        yearRefused();
        yearAtMost();
        yearlyOnes();
        counting();
        askingChangesNothing();
        sheet.end();
    }

    // ---- what a bound takes and gives

    private static void takesRefused() {
        sheet.sentence("takes: UNKNOWN (no such BOUND, GUILD); OUTSIDE; the first of these that fits");
        for (int i = 0; i < SIZES.length; i++) {
            State state = State.ALL.get(i);
            for (int bad : new int[] {-1, SIZES[i], SIZES[i] + 1, 21, 32, LOW, HIGH}) {
                sheet.refused(state, "takes(" + bad + ", 0, 0)", UNKNOWN, x -> x.takes(bad, 0, 0));
                sheet.refused(state, "takes(" + bad + ", 5, 1)", UNKNOWN, x -> x.takes(bad, 5, 1));
                sheet.refused(state, "takes(" + bad + ", 0, 2)", UNKNOWN, x -> x.takes(bad, 0, 2));
                sheet.refused(state, "takes(" + bad + ", 6, -1)", UNKNOWN, x -> x.takes(bad, 6, -1));
            }
            if (SIZES[i] > 0) {
                int last = SIZES[i] - 1;
                for (int bad : NO_GUILDS) {
                    sheet.refused(state, "takes(0, " + bad + ", 0)", UNKNOWN, x -> x.takes(0, bad, 0));
                    sheet.refused(state, "takes(the last, " + bad + ", 2)", UNKNOWN, x -> x.takes(last, bad, 2));
                }
                for (int bad : new int[] {-1, 2, 3, LOW, HIGH}) {
                    sheet.refused(state, "takes(0, 0, " + bad + ")", OUTSIDE, x -> x.takes(0, 0, bad));
                    sheet.refused(state, "takes(the last, 5, " + bad + ")", OUTSIDE, x -> x.takes(last, 5, bad));
                }
            }
        }
        WhoseWork x = Sheet.under(Sheet.lines("guild 1 not all", 8), Sheet.lines("guild 1 not all", 8), "guild 1 not all;guild 1 not all;guild 1 not all;guild 5 may of 2");
        sheet.due("takes(19, 5, 0)", x.takes(19, 5, 0), 60);
        sheet.due("takes(0, 0, 0)", x.takes(0, 0, 0), 0);
        sheet.due("takes(20, 0, 0)", x.takes(20, 0, 0), UNKNOWN);
    }

    private static void dueTakes(WhoseWork x, int bound, int guild, int taken, int given) {
        sheet.due("takes(" + bound + ", " + guild + ", 0)", x.takes(bound, guild, 0), taken);
        sheet.due("takes(" + bound + ", " + guild + ", 1)", x.takes(bound, guild, 1), given);
    }

    private static void takenAndGiven() {
        sheet.sentence("TAKEN: of WORKS that it MAY, how many it might not without that BOUND; GIVEN: of those that it may not, how many it might");
        WhoseWork x = Sheet.under("guild 0 may all");
        dueTakes(x, 0, 0, 240, 0);
        dueTakes(x, 0, 1, 0, 0);
        x = Sheet.under("guild 0 may all;guild 0 not all");
        dueTakes(x, 0, 0, 0, 0);
        dueTakes(x, 1, 0, 0, 240);
        x = Sheet.under("guild 0 may all;guild 1 only all");
        dueTakes(x, 1, 0, 0, 240);
        dueTakes(x, 1, 1, 240, 0);
        dueTakes(x, 0, 0, 0, 0);
        x = Sheet.under("guild 0 may all;guild 1 only do 5 of 3 from 9");
        dueTakes(x, 1, 0, 0, 1);
        dueTakes(x, 1, 1, 1, 0);
        dueTakes(x, 0, 0, 239, 0);
        // by a grant, above all
        x = Sheet.under("grant 2 do 0 of 0 to 0;guild 2 not all;guild 2 may do 0 of 0;guild 1 only do 0 of 0 from 1 to 2");
        dueTakes(x, 0, 2, 0, 0);
        dueTakes(x, 1, 2, 0, 0);
        dueTakes(x, 2, 2, 7, 0);
        dueTakes(x, 3, 2, 0, 2);
        dueTakes(x, 3, 1, 2, 0);
        // beside another one it MAY, too
        x = Sheet.under("guild 0 may do 1;guild 0 beside 1 all;guild 0 may do 2;guild 0 beside 3 do 3");
        dueTakes(x, 0, 0, 0, 0);
        dueTakes(x, 1, 0, 120, 0);
        dueTakes(x, 2, 0, 0, 0);
        dueTakes(x, 3, 0, 0, 0);
    }

    private static void takenOfNone() {
        sheet.sentence("by a BOUND of one's own only, that keeps one in: both taken and given");
        // without the only of 0, guild 0 is shut out by that of 1; guild 2 is shut out still
        WhoseWork x = Sheet.under("guild 0 only do 1;guild 1 only do 1 of 0;guild 0 may all;guild 2 may all");
        dueTakes(x, 0, 0, 10, 0);
        dueTakes(x, 0, 2, 0, 30);
        dueTakes(x, 0, 1, 0, 0);
        dueTakes(x, 1, 2, 0, 0);
        dueTakes(x, 1, 1, 10, 0);
        sheet.due("count(0), all still there", x.count(0), 4);
    }

    private static void idleOnes() {
        sheet.sentence("IDLE is a BOUND without which all GUILDS MAY just what they MAY");
        sheet.due("idle() of none", new WhoseWork().idle(), 0);
        sheet.due("idle() of a not alone", Sheet.under("guild 0 not all").idle(), 1);
        sheet.due("idle() of a may alone", Sheet.under("guild 0 may do 5 of 3 from 9").idle(), 0);
        sheet.due("idle() of two alike", Sheet.under("guild 0 may all;guild 0 may all").idle(), 3);
        sheet.due("idle() of one work more", Sheet.under("guild 0 may all;guild 0 not do 0 of 0 to 0;guild 0 may do 0 of 0 to 1").idle(), 2);
        // what changes for another guild alone
        sheet.due("idle() of an only", Sheet.under("guild 0 may all;guild 1 may all;guild 1 only do 5 of 3 from 9").idle(), 0);
        sheet.due("idle() of an only of the only one", Sheet.under("guild 1 may all;guild 1 only do 5 of 3 from 9").idle(), 2);
        // a grant behind which one may anyway, by others
        sheet.due("idle() of a grant", Sheet.under("grant 0 do 1;guild 0 may all").idle(), 1);
        sheet.due("idle() of a grant against an only", Sheet.under("grant 0 do 1;guild 0 may all;guild 1 only do 1 of 0 to 0").idle(), 0);
    }

    private static void idleBesideWhom() {
        sheet.sentence("(also, beside whom)");
        sheet.due("beside another than else", Sheet.under("guild 0 beside 1 all;guild 0 beside 2 do 5 of 3 from 9").idle(), 0);
        sheet.due("beside the same", Sheet.under("guild 0 beside 1 all;guild 0 beside 1 do 5 of 3 from 9").idle(), 2);
        sheet.due("beside, else by itself", Sheet.under("guild 0 may all;guild 0 beside 2 do 5 of 3 from 9").idle(), 0);
        sheet.due("by itself, else beside", Sheet.under("guild 0 beside 2 all;guild 0 may do 5 of 3 from 9").idle(), 0);
        sheet.due("hidden by the last one", Sheet.under("guild 0 beside 2 do 1;guild 0 beside 1 all").idle(), 1);
    }

    private static void idleOfMany() {
        sheet.sentence("IDLE BOUNDS, by bits: of 20");
        WhoseWork x = Sheet.under(Sheet.lines("guild 0 not all", 8), Sheet.lines("guild 0 not all", 8), Sheet.lines("guild 0 not all", 4));
        sheet.due("idle() of twenty", x.idle(), 0xFFFFF);
        x.strike(0);
        sheet.due("idle() of nineteen", x.idle(), 0x7FFFF);
        Sheet.enact(x, "guild 0 may all");
        sheet.due("idle(), but for the last", x.idle(), 0x7FFFF);
        x.strike(18);
        Sheet.enact(x, "guild 5 not do 2");
        sheet.due("idle(), but for the last but one", x.idle(), 0xBFFFF);
        sheet.due("count(0)", x.count(0), 20);
    }

    // ---- seizures

    private static void seizuresRefused() {
        sheet.sentence("seize: UNKNOWN (no such GUILD, WORK), ahead of OUTSIDE and FULL");
        for (int bad : NO_GUILDS) {
            for (int n : new int[] {0, -1, 21}) {
                sheet.refusedAlways("seize(" + bad + ", 0, " + n + ")", UNKNOWN, x -> x.seize(bad, 0, n));
                sheet.refusedAlways("seize(" + bad + ", 240, " + n + ")", UNKNOWN, x -> x.seize(bad, 240, n));
            }
        }
        for (int bad : NO_WORKS) {
            for (int n : new int[] {0, -1, 21}) {
                sheet.refusedAlways("seize(0, " + bad + ", " + n + ")", UNKNOWN, x -> x.seize(0, bad, n));
                sheet.refusedAlways("seize(5, " + bad + ", " + n + ")", UNKNOWN, x -> x.seize(5, bad, n));
            }
        }
        sheet.sentence("seize: n 0 .. how many there are, OUTSIDE, ahead of FULL");
        for (int i = 0; i < SIZES.length; i++) {
            for (int bad : new int[] {-1, -2, SIZES[i] + 1, 21, LOW, HIGH}) {
                sheet.refused(State.ALL.get(i), "seize(0, 0, " + bad + ")", OUTSIDE, x -> x.seize(0, 0, bad));
                sheet.refused(State.ALL.get(i), "seize(5, 239, " + bad + ")", OUTSIDE, x -> x.seize(5, 239, bad));
            }
        }
    }

    private static void seizuresByHowMany() {
        sheet.sentence("A SEIZURE by the first n BOUNDS (0 .. how many there are): how many");
        for (int size = 0; size <= 20; size++) {
            WhoseWork x = new WhoseWork();
            for (int i = 0; i < size; i++) {
                Sheet.enact(x, "guild 0 not all");
            }
            sheet.due("seize(0, 0, 0) of " + size, x.seize(0, 0, 0), 1);
            sheet.due("seize(5, 239, the size) of " + size, x.seize(5, 239, size), 2);
            sheet.due("seize(5, 239, one more) of " + size, x.seize(5, 239, size + 1), OUTSIDE);
            sheet.due("seize(5, 239, -1) of " + size, x.seize(5, 239, -1), OUTSIDE);
            sheet.due("count(2)", x.count(2), 2);
        }
        // as many as there are now, not as there were
        WhoseWork x = Sheet.under("grant 0 all;grant 0 all");
        sheet.due("seize(0, 0, 2)", x.seize(0, 0, 2), 1);
        x.strike(0);
        sheet.due("seize(0, 0, 2)", x.seize(0, 0, 2), OUTSIDE);
        sheet.due("seize(0, 0, 1)", x.seize(0, 0, 1), 2);
    }

    private static void seizuresAtMost() {
        sheet.sentence("SEIZURES are a row of 16 at most: FULL");
        WhoseWork x = new WhoseWork();
        for (int i = 1; i <= 16; i++) {
            sheet.due("seize(5, 239, 0)", x.seize(5, 239, 0), i);
        }
        sheet.due("seize(5, 239, 0)", x.seize(5, 239, 0), FULL);
        sheet.due("count(2)", x.count(2), 16);
        for (int n : new int[] {0, 1, 20}) {
            sheet.refused(State.CRAMMED, "seize(0, 0, " + n + ")", FULL, y -> y.seize(0, 0, n));
            sheet.refused(State.CRAMMED, "seize(5, 239, " + n + ")", FULL, y -> y.seize(5, 239, n));
        }
    }

    private static void rightRefused() {
        sheet.sentence("right: UNKNOWN: no such (i -1: the first that was not)");
        int[] seizures = {0, 4, 16};
        for (int i = 0; i < seizures.length; i++) {
            State state = State.ALL.get(i);
            for (int bad : new int[] {-2, -3, seizures[i], seizures[i] + 1, 16, 17, LOW, HIGH}) {
                sheet.refused(state, "right(" + bad + ")", UNKNOWN, x -> x.right(bad));
            }
            if (seizures[i] > 0) {
                int last = seizures[i] - 1;
                sheet.due("right(0) is an answer", state.made().right(0) >= 0 ? 1 : 0, 1);
                sheet.due("right(the last) is an answer", state.made().right(last) >= 0 ? 1 : 0, 1);
            }
        }
    }

    private static void rightByTheFirst() {
        sheet.sentence("RIGHT, if by those BOUNDS (the first so many) it might not");
        // it might by an odd many of the twenty
        WhoseWork x = new WhoseWork();
        String pairs = Sheet.lines("guild 2 may all;guild 2 not all", 4);
        Sheet.enact(x, pairs, pairs, Sheet.lines("guild 2 may all;guild 2 not all", 2));
        for (int n = 0; n <= 15; n++) {
            sheet.due("seize(2, 0, " + n + ")", x.seize(2, 0, n), n + 1);
        }
        for (int n = 0; n <= 15; n++) {
            sheet.due("right(" + n + ")", x.right(n), n % 2 == 0 ? 1 : 0);
        }
        sheet.due("right(-1)", x.right(-1), 1);
        WhoseWork y = new WhoseWork();
        Sheet.enact(y, pairs, pairs, Sheet.lines("guild 2 may all;guild 2 not all", 2));
        for (int n = 16; n <= 20; n++) {
            y.seize(2, 239, n);
        }
        for (int n = 16; n <= 20; n++) {
            sheet.due("right of " + n, y.right(n - 16), n % 2 == 0 ? 1 : 0);
        }
        // grants and onlys of the first so many count as any
        WhoseWork z = Sheet.under("guild 0 may all;guild 1 only do 1;grant 0 do 1 of 1;guild 0 beside 3 of 2");
        int[] due = {1, 0, 1, 0, 0};
        for (int n = 0; n <= 4; n++) {
            z.seize(0, 50, n);
            sheet.due("right of work 50 by " + n, z.right(n), due[n]);
        }
        z.seize(0, 20, 4);
        sheet.due("right, beside another one", z.right(5), 0);
        z.seize(4, 20, 4);
        sheet.due("right, none deciding", z.right(6), 1);
    }

    private static void rightByThoseNow() {
        sheet.sentence("(by the first so many of the BOUNDS there are now)");
        WhoseWork x = Sheet.under("guild 0 may do 0;guild 0 not do 0;guild 0 may do 0");
        for (int n = 0; n <= 3; n++) {
            x.seize(0, 0, n);
        }
        dueRight(x, 1, 0, 1, 0);
        x.strike(1);
        dueRight(x, 1, 0, 0, 0);
        x.strike(0);
        dueRight(x, 1, 0, 0, 0);
        // fewer than so many: all there are
        x.strike(0);
        dueRight(x, 1, 1, 1, 1);
        // and what is told behind is of the first so many again
        Sheet.enact(x, "guild 0 not all");
        dueRight(x, 1, 1, 1, 1);
        Sheet.enact(x, "guild 0 may all");
        dueRight(x, 1, 1, 0, 0);
        Sheet.enact(x, "guild 0 not all;grant 0 all");
        dueRight(x, 1, 1, 0, 1);
    }

    private static void dueRight(WhoseWork x, int... row) {
        int first = NONE;
        for (int i = row.length - 1; i >= 0; i--) {
            sheet.due("right(" + i + ")", x.right(i), row[i]);
            first = row[i] == 0 ? i : first;
        }
        sheet.due("right(-1)", x.right(-1), first);
    }

    private static void firstWrong() {
        sheet.sentence("the first that was not (i -1); NONE");
        sheet.due("right(-1) of none", new WhoseWork().right(-1), NONE);
        for (int wrong = 0; wrong <= 16; wrong++) {
            WhoseWork x = Sheet.under("guild 1 may all");
            for (int i = 0; i < 16; i++) {
                x.seize(i >= wrong ? 1 : 0, i, 1);
            }
            sheet.due("right(-1), from " + wrong + " on wrong", x.right(-1), wrong < 16 ? wrong : NONE);
        }
    }

    // ---- a year

    private static void yearRefused() {
        sheet.sentence("year: UNKNOWN, ahead of FULL");
        for (int bad : NO_WORKS) {
            sheet.refusedAlways("year(" + bad + ")", UNKNOWN, x -> x.year(bad));
        }
        sheet.due("year(0)", new WhoseWork().year(0), 1);
        sheet.due("year(239)", new WhoseWork().year(239), 1);
        sheet.sentence("yearly: UNKNOWN");
        for (int bad : NO_GUILDS) {
            sheet.refusedAlways("yearly(" + bad + ")", UNKNOWN, x -> x.yearly(bad));
        }
    }

    private static void yearAtMost() {
        sheet.sentence("YEAR is a row of 24 WORKS at most: FULL");
        WhoseWork x = Sheet.under("guild 5 may all");
        for (int i = 1; i <= 24; i++) {
            sheet.due("year(" + 9 * i + ")", x.year(9 * i), i);
            sheet.due("yearly(5)", x.yearly(5), i);
        }
        sheet.due("year(0)", x.year(0), FULL);
        sheet.due("year(239)", x.year(239), FULL);
        sheet.due("yearly(5)", x.yearly(5), 24);
        for (int work : new int[] {0, 1, 239}) {
            sheet.refused(State.CRAMMED, "year(" + work + ")", FULL, y -> y.year(work));
        }
    }

    private static void yearlyOnes() {
        sheet.sentence("How many WORKS of the YEAR a GUILD MAY");
        WhoseWork x = Sheet.under("guild 0 may to 4;guild 1 beside 0 from 5;guild 2 not all;grant 3 do 0 of 0;guild 4 only do 5");
        int[] none = {0, 0, 0, 0, 0, 0};
        dueYearly(x, none);
        for (int depth = 0; depth < 10; depth++) {
            x.year(depth);
        }
        dueYearly(x, 5, 5, 0, 10, 0, 0);
        // a work twice is two works
        x.year(0);
        x.year(0);
        dueYearly(x, 7, 5, 0, 12, 0, 0);
        x.year(Sheet.work(5, 0, 0));
        x.year(239);
        dueYearly(x, 7, 5, 0, 12, 2, 0);
        // by the bounds there are now
        x.strike(4);
        dueYearly(x, 8, 6, 0, 12, 0, 0);
    }

    private static void dueYearly(WhoseWork x, int... row) {
        for (int guild = 0; guild < 6; guild++) {
            sheet.due("yearly(" + guild + ")", x.yearly(guild), row[guild]);
        }
    }

    private static void counting() {
        sheet.sentence("0 BOUNDS, 1 bytes of THE TEXT, 2 SEIZURES, 3 WORKS of the YEAR, 4 .. 9 STEPS of THINGS 0 .. 5. OUTSIDE.");
        for (int bad : new int[] {-1, -2, 10, 11, LOW, HIGH}) {
            sheet.refusedAlways("count(" + bad + ")", OUTSIDE, x -> x.count(bad));
        }
        int[][] due = {{0, 0, 0, 0, 0, 0, 0, 0, 0, 0}, {8, 26, 4, 5, 3, 1, 8, 0, 0, 0}, {20, 160, 16, 24, 8, 8, 8, 8, 8, 8}};
        for (int i = 0; i < due.length; i++) {
            WhoseWork x = State.ALL.get(i).made();
            for (int what = 0; what <= 9; what++) {
                sheet.due("in " + State.ALL.get(i).name() + ", count(" + what + ")", x.count(what), due[i][what]);
            }
        }
        for (int thing = 0; thing < 6; thing++) {
            WhoseWork x = new WhoseWork();
            x.step(thing, 0, NONE);
            for (int what = 0; what <= 9; what++) {
                sheet.due("count(" + what + "), a step of " + thing, x.count(what), what == 4 + thing ? 1 : 0);
            }
        }
    }

    private static void askingChangesNothing() {
        sheet.sentence("what is only asked changes nothing");
        for (State state : State.ALL) {
            sheet.unchanged(state, "takes(0, 0, 0)", x -> x.takes(0, 0, 0));
            sheet.unchanged(state, "takes(7, 5, 1)", x -> x.takes(7, 5, 1));
            sheet.unchanged(state, "idle()", WhoseWork::idle);
            sheet.unchanged(state, "right(-1)", x -> x.right(-1));
            sheet.unchanged(state, "right(0)", x -> x.right(0));
            sheet.unchanged(state, "yearly(0)", x -> x.yearly(0));
            sheet.unchanged(state, "count(9)", x -> x.count(9));
        }
    }
}
