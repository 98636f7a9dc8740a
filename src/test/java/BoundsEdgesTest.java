/** The boundary cases of BOUNDS: promises 1 and 6 to 11, and what the terms say of WORKS, GUILDS, REACH and MAY. */
public final class BoundsEdgesTest {
    private static final int NONE = Sheet.NONE, UNKNOWN = Sheet.UNKNOWN, OUTSIDE = Sheet.OUTSIDE;
    private static final Sheet sheet = new Sheet();

    /** Twenty bounds, no two alike. */
    private static final String[] TWENTY = {
        "guild 0 may do 0;guild 1 not do 1;guild 2 only do 2 of 2;guild 3 beside 0 do 3;grant 4 do 4;guild 5 may do 5;guild 0 not of 1",
        "guild 1 only of 1 to 2;guild 2 beside 1 of 2;grant 3 of 3;guild 4 may of 0;guild 5 not to 4;guild 0 only do 0 from 8",
        "guild 1 beside 2 from 5;grant 2 to 0;guild 3 may all;guild 4 not do 1 of 1;guild 5 only do 1 to 0;guild 0 beside 3 of 0 to 1;grant 1 do 5"
    };

    public static void main(String[] args) {
        noneAtFirst();
        strikingNoBound();
        strikingEach();
        strikingToNone();
        strikingTouchesBoundsAlone();
        cellsAsked();
        noSuchGuildOrWork();
        withinItsReach();
        grantsAboveAll();
        firstGrantDecides();
        onlysOfOthers();
        lastOfItsOwn();
        besideEach();
        noneDecides();
        whoByBits();
        freeOnes();
        sharedOnes();
        claimedOnes();
        worksAsked();
        askingChangesNothing();
        sheet.end();
    }

    private static void dueMay(WhoseWork x, int guild, int work, int may, int why) {
        sheet.due("may(" + guild + ", " + work + ")", x.may(guild, work), may);
        sheet.due("why(" + guild + ", " + work + ")", x.why(guild, work), why);
    }

    private static void noneAtFirst() {
        sheet.sentence("A new object: No BOUNDS, no STEPS (none at first)");
        WhoseWork x = new WhoseWork();
        for (int what = 0; what <= 9; what++) {
            sheet.due("count(" + what + ")", x.count(what), 0);
        }
        for (int work = 0; work < 240; work++) {
            sheet.due("who(" + work + ")", x.who(work), 0);
        }
        sheet.due("bound(0, 0)", x.bound(0, 0), UNKNOWN);
        sheet.due("strike(0)", x.strike(0), UNKNOWN);
        sheet.due("takes(0, 0, 0)", x.takes(0, 0, 0), UNKNOWN);
        sheet.due("idle()", x.idle(), 0);
        sheet.due("works(0, -1)", x.works(0, -1), 240);
        sheet.due("works(0, 239)", x.works(0, 239), 239);
        sheet.due("works(0, 240)", x.works(0, 240), NONE);
        sheet.due("works(1, -1)", x.works(1, -1), 0);
        sheet.due("works(1, 0)", x.works(1, 0), NONE);
        sheet.due("works(2, -1)", x.works(2, -1), 0);
        sheet.due("works(2, 0)", x.works(2, 0), NONE);
        sheet.due("right(-1)", x.right(-1), NONE);
        sheet.due("right(0)", x.right(0), UNKNOWN);
        sheet.due("erase()", x.erase(), 0);
        for (int thing = 0; thing < 6; thing++) {
            sheet.due("clear(" + thing + ")", x.clear(thing), 0);
        }
        for (int guild = 0; guild < 6; guild++) {
            sheet.due("alone(" + guild + ")", x.alone(guild), 0);
            sheet.due("yearly(" + guild + ")", x.yearly(guild), 0);
        }
        // one object knows nothing of another
        WhoseWork other = State.CRAMMED.made();
        sheet.due("count(0) of another", other.count(0), 20);
        sheet.due("count(0)", x.count(0), 0);
        sheet.due("count(0) of a new one", new WhoseWork().count(0), 0);
    }

    private static void strikingNoBound() {
        sheet.sentence("strike: UNKNOWN, no such BOUND");
        int[] sizes = {0, 8, 20};
        for (int i = 0; i < sizes.length; i++) {
            for (int bad : new int[] {-1, sizes[i], sizes[i] + 1, 21, 32, Sheet.LOW, Sheet.HIGH}) {
                sheet.refused(State.ALL.get(i), "strike(" + bad + ")", UNKNOWN, x -> x.strike(bad));
            }
            if (sizes[i] > 0) {
                sheet.due("strike(0)", State.ALL.get(i).made().strike(0), sizes[i] - 1);
                sheet.due("strike(the last)", State.ALL.get(i).made().strike(sizes[i] - 1), sizes[i] - 1);
            }
        }
        WhoseWork x = Sheet.under("grant 0 all");
        sheet.due("strike(1)", x.strike(1), UNKNOWN);
        sheet.due("strike(0)", x.strike(0), 0);
        sheet.due("strike(0)", x.strike(0), UNKNOWN);
    }

    private static void strikingEach() {
        sheet.sentence("A BOUND is struck out; those behind it are numbered anew: how many there are");
        int[][] cells = new int[20][7];
        WhoseWork whole = Sheet.under(TWENTY);
        for (int i = 0; i < 140; i++) {
            cells[i / 7][i % 7] = whole.bound(i / 7, i % 7);
        }
        for (int out = 0; out < 20; out++) {
            WhoseWork x = Sheet.under(TWENTY);
            sheet.due("strike(" + out + ")", x.strike(out), 19);
            for (int bound = 0; bound < 19; bound++) {
                for (int what = 0; what < 7; what++) {
                    sheet.due("bound(" + bound + ", " + what + ") behind strike(" + out + ")", x.bound(bound, what),
                        cells[bound < out ? bound : bound + 1][what]);
                }
            }
            sheet.due("bound(19, 0)", x.bound(19, 0), UNKNOWN);
            sameAsToldWithout(out);
        }
    }

    /** All that is decided, against an object to which that line was never told. */
    private static void sameAsToldWithout(int out) {
        WhoseWork struck = Sheet.under(TWENTY);
        struck.strike(out);
        String all = String.join(";", TWENTY);
        String[] lines = all.split(";");
        WhoseWork untold = new WhoseWork();
        for (int i = 0; i < lines.length; i++) {
            if (i != out) {
                Sheet.enact(untold, lines[i]);
            }
        }
        for (int work = 0; work < 240; work += 4) {
            for (int guild = 0; guild < 6; guild++) {
                sheet.due("why(" + guild + ", " + work + ") behind strike(" + out + ")", struck.why(guild, work), untold.why(guild, work));
            }
        }
    }

    private static void strikingToNone() {
        sheet.sentence("how many there are, to none, and told anew from 0");
        WhoseWork x = Sheet.under(TWENTY);
        for (int left = 19; left >= 0; left--) {
            sheet.due("strike(" + left / 2 + ")", x.strike(left / 2), left);
        }
        sheet.due("strike(0)", x.strike(0), UNKNOWN);
        sheet.due("works(0, -1)", x.works(0, -1), 240);
        sheet.due("works(2, -1)", x.works(2, -1), 0);
        Sheet.enact(x, "guild 2 may do 1");
        dueMay(x, 2, 40, 1, 0);
        dueMay(x, 0, 0, 0, NONE);
        sheet.due("who(40)", x.who(40), 4);
    }

    private static void strikingTouchesBoundsAlone() {
        sheet.sentence("A BOUND is struck out: the rest stands");
        WhoseWork x = State.SOME.made();
        x.strike(3);
        int[] due = {7, 26, 4, 5, 3, 1, 8, 0, 0, 0};
        for (int what = 0; what <= 9; what++) {
            sheet.due("count(" + what + ")", x.count(what), due[what]);
        }
        sheet.due("fault()", x.fault(), 26);
    }

    private static void cellsAsked() {
        sheet.sentence("bound: what 0 .. 6, OUTSIDE; no such BOUND, UNKNOWN, ahead of it");
        WhoseWork x = Sheet.under("guild 0 may do 0 of 0 from 0 to 0;guild 5 beside 0 do 5 of 3 from 9 to 9;guild 0 beside 5 all");
        int[][] due = {{0, 0, NONE, 0, 0, 0, 0}, {3, 5, 0, 5, 3, 9, 9}, {3, 0, 5, NONE, NONE, 0, 9}};
        for (int bound = 0; bound < 3; bound++) {
            for (int what = 0; what < 7; what++) {
                sheet.due("bound(" + bound + ", " + what + ")", x.bound(bound, what), due[bound][what]);
            }
        }
        int[] sizes = {0, 8, 20};
        for (int i = 0; i < sizes.length; i++) {
            State state = State.ALL.get(i);
            int last = sizes[i] - 1;
            for (int what : new int[] {-1, 7, 8, Sheet.LOW, Sheet.HIGH}) {
                if (last >= 0) {
                    sheet.refused(state, "bound(0, " + what + ")", OUTSIDE, y -> y.bound(0, what));
                    sheet.refused(state, "bound(the last, " + what + ")", OUTSIDE, y -> y.bound(last, what));
                }
                sheet.refused(state, "bound(" + sizes[i] + ", " + what + ")", UNKNOWN, y -> y.bound(last + 1, what));
                sheet.refused(state, "bound(-1, " + what + ")", UNKNOWN, y -> y.bound(-1, what));
            }
            for (int bad : new int[] {-1, last + 1, 21, Sheet.LOW, Sheet.HIGH}) {
                sheet.refused(state, "bound(" + bad + ", 0)", UNKNOWN, y -> y.bound(bad, 0));
                sheet.refused(state, "bound(" + bad + ", 6)", UNKNOWN, y -> y.bound(bad, 6));
            }
        }
    }

    private static void noSuchGuildOrWork() {
        sheet.sentence("may, why, who: UNKNOWN (no such GUILD, WORK): GUILDS are 0 .. 5, WORKS 0 .. 239");
        int[] noGuilds = {-1, 6, 7, Sheet.LOW, Sheet.HIGH};
        int[] noWorks = {-1, 240, 241, 256, Sheet.LOW, Sheet.HIGH};
        for (int bad : noGuilds) {
            for (int work : new int[] {0, 239, 240, -1}) {
                sheet.refusedAlways("may(" + bad + ", " + work + ")", UNKNOWN, x -> x.may(bad, work));
                sheet.refusedAlways("why(" + bad + ", " + work + ")", UNKNOWN, x -> x.why(bad, work));
            }
        }
        for (int bad : noWorks) {
            for (int guild : new int[] {0, 5}) {
                sheet.refusedAlways("may(" + guild + ", " + bad + ")", UNKNOWN, x -> x.may(guild, bad));
                sheet.refusedAlways("why(" + guild + ", " + bad + ")", UNKNOWN, x -> x.why(guild, bad));
            }
            sheet.refusedAlways("who(" + bad + ")", UNKNOWN, x -> x.who(bad));
        }
        WhoseWork x = Sheet.under("guild 0 may all;guild 5 may all");
        for (int work : new int[] {0, 239}) {
            dueMay(x, 0, work, 1, 0);
            dueMay(x, 5, work, 1, 1);
            sheet.due("who(" + work + ")", x.who(work), 33);
        }
    }

    private static void withinItsReach() {
        sheet.sentence("as a number 40 VERB and 10 STUFF and DEPTH .. DEPTHS from a least to a greatest one");
        for (int verb = -1; verb <= 5; verb++) {
            for (int stuff = -1; stuff <= 3; stuff++) {
                for (int from : new int[] {0, 1, 8, 9}) {
                    dueReach(verb, stuff, from, from);
                    dueReach(verb, stuff, from, Math.min(9, from + 1));
                    dueReach(verb, stuff, from, 9);
                }
            }
        }
    }

    private static void dueReach(int verb, int stuff, int from, int to) {
        String line = "guild 4 may" + (verb < 0 ? "" : " do " + verb) + (stuff < 0 ? "" : " of " + stuff) + " from " + from + " to " + to;
        WhoseWork x = Sheet.under(line);
        for (int v = 0; v < 6; v++) {
            for (int s = 0; s < 4; s++) {
                for (int d = 0; d < 10; d++) {
                    boolean within = (verb < 0 || verb == v) && (stuff < 0 || stuff == s) && d >= from && d <= to;
                    sheet.due("'" + line + "', may(4, " + Sheet.work(v, s, d) + ")", x.may(4, Sheet.work(v, s, d)), within ? 1 : 0);
                }
            }
        }
    }

    private static void grantsAboveAll() {
        sheet.sentence("by a grant to it that the WORK is WITHIN");
        WhoseWork x = Sheet.under("grant 1 do 2 of 1 from 3 to 5;guild 1 not all;guild 0 only all;guild 1 beside 2 all;guild 1 not all");
        dueMay(x, 1, Sheet.work(2, 1, 3), 1, 0);
        dueMay(x, 1, Sheet.work(2, 1, 5), 1, 0);
        // on either side of it, the only of another one
        dueMay(x, 1, Sheet.work(2, 1, 2), 0, 2);
        dueMay(x, 1, Sheet.work(2, 1, 6), 0, 2);
        dueMay(x, 1, Sheet.work(2, 0, 4), 0, 2);
        dueMay(x, 1, Sheet.work(1, 1, 4), 0, 2);
        // to another one it says nothing, and takes nothing from it
        dueMay(x, 0, Sheet.work(2, 1, 4), 1, 2);
        dueMay(x, 3, Sheet.work(2, 1, 4), 0, 2);
        // told last, it stands above what is told ahead
        x = Sheet.under("guild 0 only all;guild 1 not all;grant 1 all");
        dueMay(x, 1, 0, 1, 2);
        // a grant is no only: it shuts none out and keeps none in
        x = Sheet.under("grant 1 of 0;guild 0 may all;guild 2 only of 1;guild 1 may all");
        dueMay(x, 0, Sheet.work(0, 0, 0), 1, 1);
        dueMay(x, 1, Sheet.work(0, 1, 0), 0, 2);
        dueMay(x, 1, Sheet.work(0, 2, 0), 1, 3);
    }

    private static void firstGrantDecides() {
        sheet.sentence("the first such decides");
        WhoseWork x = Sheet.under("grant 0 all;grant 1 do 1;grant 1 all;grant 1 do 2;grant 1 do 1");
        dueMay(x, 1, Sheet.work(1, 0, 0), 1, 1);
        dueMay(x, 1, Sheet.work(2, 0, 0), 1, 2);
        dueMay(x, 1, Sheet.work(3, 0, 0), 1, 2);
        x.strike(1);
        dueMay(x, 1, Sheet.work(1, 0, 0), 1, 1);
    }

    private static void onlysOfOthers() {
        sheet.sentence("if it is WITHIN an only of another GUILD, and WITHIN no only of its own, not (the first such of another one decides)");
        WhoseWork x = Sheet.under("guild 1 may all;guild 2 only do 1 from 4;guild 3 only do 1 from 3;guild 1 may all;guild 1 only do 1 from 8");
        dueMay(x, 1, Sheet.work(1, 0, 2), 1, 3);
        dueMay(x, 1, Sheet.work(1, 0, 3), 0, 2);
        dueMay(x, 1, Sheet.work(1, 0, 4), 0, 1);
        dueMay(x, 1, Sheet.work(1, 0, 7), 0, 1);
        dueMay(x, 1, Sheet.work(1, 0, 8), 1, 4);
        dueMay(x, 2, Sheet.work(1, 0, 3), 0, 2);
        dueMay(x, 2, Sheet.work(1, 0, 4), 1, 1);
        dueMay(x, 3, Sheet.work(1, 0, 4), 1, 2);
        dueMay(x, 0, Sheet.work(1, 0, 2), 0, NONE);
        // an only of its own keeps it in, wherever it is told; then the last of its own decides
        x = Sheet.under("guild 1 only all;guild 2 only all;guild 1 not do 1;guild 1 beside 0 do 2;guild 1 may do 3;guild 2 not do 3");
        dueMay(x, 1, Sheet.work(0, 0, 0), 1, 0);
        dueMay(x, 1, Sheet.work(1, 0, 0), 0, 2);
        dueMay(x, 1, Sheet.work(2, 0, 0), 2, 3);
        dueMay(x, 1, Sheet.work(3, 0, 0), 1, 4);
        dueMay(x, 2, Sheet.work(3, 0, 0), 0, 5);
        dueMay(x, 0, Sheet.work(3, 0, 0), 0, 0);
        // one's own only alone shuts one out of nothing
        x = Sheet.under("guild 1 only do 1;guild 1 may do 2");
        dueMay(x, 1, Sheet.work(1, 0, 0), 1, 0);
        dueMay(x, 1, Sheet.work(2, 0, 0), 1, 1);
        dueMay(x, 1, Sheet.work(3, 0, 0), 0, NONE);
    }

    private static void lastOfItsOwn() {
        sheet.sentence("by the last may, not, only or beside of its own that it is WITHIN");
        String[] words = {"may", "not", "only", "beside 5"};
        int[] due = {1, 0, 1, 7};
        for (int ahead = 0; ahead < 4; ahead++) {
            for (int behind = 0; behind < 4; behind++) {
                WhoseWork x = Sheet.under("guild 0 " + words[ahead] + " all;guild 0 " + words[behind] + " do 1;guild 0 may do 2;guild 1 not all");
                dueMay(x, 0, Sheet.work(0, 0, 0), due[ahead], 0);
                dueMay(x, 0, Sheet.work(1, 0, 0), due[behind], 1);
                dueMay(x, 0, Sheet.work(2, 0, 0), 1, 2);
            }
        }
        // the last of twenty
        WhoseWork x = Sheet.under(Sheet.lines("guild 0 not all", 8), Sheet.lines("guild 0 not all", 8), Sheet.lines("guild 0 not all", 3),
            "guild 0 may do 0");
        dueMay(x, 0, 0, 1, 19);
        dueMay(x, 0, 40, 0, 18);
        x.strike(19);
        dueMay(x, 0, 0, 0, 18);
    }

    private static void besideEach() {
        sheet.sentence("beside another one: 2 and that GUILD");
        for (int guild = 0; guild < 6; guild++) {
            for (int other = 0; other < 6; other++) {
                if (other != guild) {
                    WhoseWork x = Sheet.under("guild " + guild + " beside " + other + " all");
                    dueMay(x, guild, 239, 2 + other, 0);
                    dueMay(x, other, 239, 0, NONE);
                }
            }
        }
    }

    private static void noneDecides() {
        sheet.sentence("none: not .. DECIDES: the number of that BOUND; none");
        WhoseWork x = Sheet.under("guild 0 may do 0;grant 1 do 1;guild 2 not do 2");
        dueMay(x, 0, 40, 0, NONE);
        dueMay(x, 1, 0, 0, NONE);
        dueMay(x, 2, 0, 0, NONE);
        dueMay(x, 2, 80, 0, 2);
        dueMay(x, 5, 80, 0, NONE);
    }

    private static void whoByBits() {
        sheet.sentence("GUILDS that MAY a WORK, by bits");
        WhoseWork x = Sheet.under("guild 0 may to 0;guild 1 beside 2 to 1;guild 2 may to 2;guild 3 may to 3;grant 4 to 4;guild 5 may to 5");
        int[] due = {63, 62, 60, 56, 48, 32, 0, 0, 0, 0};
        for (int depth = 0; depth < 10; depth++) {
            sheet.due("who(" + depth + ")", x.who(depth), due[depth]);
            sheet.due("who(" + (230 + depth) + ")", x.who(230 + depth), due[depth]);
        }
    }

    private static void dueWorks(WhoseWork x, int what, int... row) {
        sheet.due("works(" + what + ", -1)", x.works(what, -1), row.length);
        for (int i = 0; i < row.length; i++) {
            sheet.due("works(" + what + ", " + i + ")", x.works(what, i), row[i]);
        }
        for (int beyond : new int[] {row.length, row.length + 1, 240, 241, Sheet.HIGH}) {
            sheet.due("works(" + what + ", " + beyond + ")", x.works(what, Math.max(row.length, beyond)), NONE);
        }
    }

    private static void freeOnes() {
        sheet.sentence("FREE are WORKS that no GUILD MAY");
        WhoseWork x = Sheet.under("guild 0 may all;guild 0 not do 0 of 0 to 0;guild 0 not do 5 of 3 from 9",
            "guild 0 not do 1 of 1 from 1 to 2;guild 1 beside 0 do 1 of 1 from 2 to 2");
        dueWorks(x, 0, 0, 51, 239);
        dueWorks(Sheet.under("guild 3 beside 5 all"), 0);
        dueWorks(Sheet.under("guild 3 may all;guild 3 not all;grant 2 all;guild 1 only of 3"), 0);
    }

    private static void sharedOnes() {
        sheet.sentence("SHARED, that two or more MAY");
        WhoseWork x = Sheet.under("guild 0 may do 0 of 0 to 2;guild 5 may do 0 of 0 from 2 to 3;guild 3 beside 4 do 0 of 0 from 3 to 4",
            "guild 1 may do 5 of 3 from 9;grant 2 do 5 of 3 from 9;guild 4 may do 5 of 3 from 8");
        dueWorks(x, 1, 2, 3, 239);
        dueWorks(Sheet.under("guild 0 may all;guild 0 only do 1;guild 0 may do 2"), 1);
        sheet.due("works(1, -1), all being shared", Sheet.under("guild 0 may all;guild 1 may all").works(1, -1), 240);
        sheet.due("works(1, 239)", Sheet.under("guild 0 may all;guild 1 may all").works(1, 239), 239);
        sheet.due("works(1, 240)", Sheet.under("guild 0 may all;guild 1 may all").works(1, 240), NONE);
    }

    private static void claimedOnes() {
        sheet.sentence("CLAIMED, that are WITHIN only BOUNDS of two or more GUILDS");
        WhoseWork x = Sheet.under("guild 0 only do 0 of 0 to 2;guild 1 only do 0 of 0 from 2 to 4;guild 2 only do 0 of 0 from 4 to 5",
            "guild 2 only do 5 of 3 from 9;guild 0 only do 5 of 3 from 9;guild 1 only do 5 of 3 from 8");
        dueWorks(x, 2, 2, 4, 239);
        // those of one guild are of one guild, and words other than only claim nothing
        dueWorks(Sheet.under("guild 0 only all;guild 0 only all;guild 1 may all;grant 2 all;guild 3 beside 4 all;guild 5 not all"), 2);
        // also where neither may, or another one by a grant
        x = Sheet.under("guild 0 only do 1 of 2 from 3 to 3;guild 1 only do 1 of 2 to 3;guild 0 not all;guild 1 not all;grant 2 all");
        dueWorks(x, 2, 63);
        sheet.due("who(63)", x.who(63), 4);
        x = Sheet.under("guild 4 only all;guild 5 only all");
        sheet.due("works(2, -1), all being claimed", x.works(2, -1), 240);
        sheet.due("works(2, 239)", x.works(2, 239), 239);
        sheet.due("works(2, 240)", x.works(2, 240), NONE);
    }

    private static void worksAsked() {
        sheet.sentence("works: OUTSIDE: what, i below -1");
        for (int what : new int[] {-1, 3, 4, Sheet.LOW, Sheet.HIGH}) {
            for (int i : new int[] {-1, 0, 239, -2}) {
                sheet.refusedAlways("works(" + what + ", " + i + ")", OUTSIDE, x -> x.works(what, i));
            }
        }
        for (int what = 0; what <= 2; what++) {
            int w = what;
            for (int i : new int[] {-2, -3, Sheet.LOW, Sheet.LOW + 1}) {
                sheet.refusedAlways("works(" + what + ", " + i + ")", OUTSIDE, x -> x.works(w, i));
            }
        }
    }

    private static void askingChangesNothing() {
        sheet.sentence("what is only asked changes nothing");
        for (State state : State.ALL) {
            sheet.unchanged(state, "bound(0, 0)", x -> x.bound(0, 0));
            sheet.unchanged(state, "may(0, 0)", x -> x.may(0, 0));
            sheet.unchanged(state, "why(5, 239)", x -> x.why(5, 239));
            sheet.unchanged(state, "who(100)", x -> x.who(100));
            sheet.unchanged(state, "works(0, -1)", x -> x.works(0, -1));
            sheet.unchanged(state, "works(1, 0)", x -> x.works(1, 0));
            sheet.unchanged(state, "works(2, 5)", x -> x.works(2, 5));
        }
    }
}
