/** The boundary cases of THINGS: promises 12 to 25, and what the terms say of STEPS, PRICES, WAYS and those that are best. */
public final class ThingsEdgesTest {
    private static final int NONE = Sheet.NONE, UNKNOWN = Sheet.UNKNOWN, OUTSIDE = Sheet.OUTSIDE, NOT = Sheet.NOT, FULL = Sheet.FULL;
    private static final int LOW = Sheet.LOW, HIGH = Sheet.HIGH;
    private static final int[] NO_THINGS = {-1, 6, 7, LOW, HIGH};
    private static final int[] NO_GUILDS = {-1, 6, 7, LOW, HIGH};
    private static final int[] NO_SETS = {-1, 64, 65, 127, LOW, HIGH};
    private static final int[] NEITHER_0_NOR_1 = {-1, 2, 3, LOW, HIGH};
    private static final Sheet sheet = new Sheet();

    public static void main(String[] args) {
        stepsAtMost();
        stepsUnknown();
        stepsFullBehindUnknown();
        stepsWithAndWithoutAnother();
        clearing();
        prices();
        daysOfGuilds();
        carrying();
        judgedStepByStep();
        judgedBeyond();
        toldRefused();
        toldCosts();
        toldHands();
        setsAsked();
        fewestOnes();
        fewestOfAsMany();
        bestRefused();
        bestOnes();
        dearestAndSlowest();
        wayRefused();
        waySteps();
        wayFirstOfSeveral();
        longAheadOfShort();
        aloneOnes();
        slyRefused();
        slyOff();
        slyWithoutWrap();
        slyFewer();
        slyFirst();
        struckRefused();
        struckAtMost();
        struckFirstTen();
        struckFewestAndLeast();
        noSteps();
        askingChangesNothing();
        sheet.end();
    }

    private static int at(int verb) {
        return Sheet.work(verb, 0, 0);
    }

    private static void steps(WhoseWork x, int thing, int... works) {
        for (int work : works) {
            x.step(thing, work, NONE);
        }
    }

    // ---- steps

    private static void stepsAtMost() {
        sheet.sentence("THINGS are 0 .. 5: a row of STEPS, 8 at most .. FULL");
        WhoseWork x = new WhoseWork();
        for (int i = 1; i <= 8; i++) {
            for (int thing = 0; thing < 6; thing++) {
                sheet.due("step(" + thing + ", ..)", x.step(thing, i, i % 2 == 0 ? NONE : 239 - i), i);
                sheet.due("count(" + (4 + thing) + ")", x.count(4 + thing), i);
            }
        }
        for (int thing = 0; thing < 6; thing++) {
            int t = thing;
            sheet.due("step(" + thing + ", ..)", x.step(thing, 0, 0), FULL);
            sheet.due("count(" + (4 + thing) + ")", x.count(4 + thing), 8);
            sheet.refused(State.CRAMMED, "step(" + thing + ", 0, NONE)", FULL, y -> y.step(t, 0, NONE));
            sheet.refused(State.CRAMMED, "step(" + thing + ", 239, 239)", FULL, y -> y.step(t, 239, 239));
        }
        sheet.refused(State.SOME, "step(2, 5, 6)", FULL, y -> y.step(2, 5, 6));
        sheet.due("step(1, 5, 6)", State.SOME.made().step(1, 5, 6), 2);
    }

    private static void stepsUnknown() {
        sheet.sentence("step: UNKNOWN (no such WORK, THING)");
        for (int bad : NO_THINGS) {
            sheet.refusedAlways("step(" + bad + ", 0, NONE)", UNKNOWN, x -> x.step(bad, 0, NONE));
            sheet.refusedAlways("step(" + bad + ", 239, 0)", UNKNOWN, x -> x.step(bad, 239, 0));
        }
        for (int bad : new int[] {-1, -2, 240, 241, LOW, HIGH}) {
            sheet.refusedAlways("step(0, " + bad + ", NONE)", UNKNOWN, x -> x.step(0, bad, NONE));
            sheet.refusedAlways("step(5, " + bad + ", 0)", UNKNOWN, x -> x.step(5, bad, 0));
        }
        for (int bad : new int[] {-2, -3, -4, 240, 241, LOW, HIGH}) {
            sheet.refusedAlways("step(0, 0, " + bad + ")", UNKNOWN, x -> x.step(0, 0, bad));
            sheet.refusedAlways("step(5, 239, " + bad + ")", UNKNOWN, x -> x.step(5, 239, bad));
        }
        for (int work : new int[] {0, 239}) {
            for (int other : new int[] {NONE, 0, 239}) {
                sheet.due("step(5, " + work + ", " + other + ")", new WhoseWork().step(5, work, other), 1);
                sheet.due("step(0, " + work + ", " + other + ")", new WhoseWork().step(0, work, other), 1);
            }
        }
    }

    private static void stepsFullBehindUnknown() {
        sheet.sentence("step: UNKNOWN ahead of FULL");
        sheet.refused(State.SOME, "step(2, 240, NONE)", UNKNOWN, x -> x.step(2, 240, NONE));
        sheet.refused(State.SOME, "step(2, -1, 0)", UNKNOWN, x -> x.step(2, -1, 0));
        sheet.refused(State.SOME, "step(2, 0, 240)", UNKNOWN, x -> x.step(2, 0, 240));
        sheet.refused(State.SOME, "step(2, 0, -2)", UNKNOWN, x -> x.step(2, 0, -2));
    }

    private static void stepsWithAndWithoutAnother() {
        sheet.sentence("a WORK, and another one (NONE: no other one)");
        WhoseWork x = Sheet.under("guild 0 may do 0;guild 1 may do 1");
        x.step(0, at(0), at(1));
        x.step(1, at(0), NONE);
        x.step(2, at(0), at(0));
        sheet.due("judge(0, 1, 1)", x.judge(0, 1, 1), NONE);
        sheet.due("judge(1, 1, 1)", x.judge(1, 1, 1), 0);
        sheet.due("judge(1, 0, 1)", x.judge(1, 0, 1), 0);
        sheet.due("judge(1, 0, 0)", x.judge(1, 0, 0), NONE);
        sheet.due("judge(2, 0, 1)", x.judge(2, 0, 1), NONE);
        sheet.due("can(1, 2)", x.can(1, 2), 0);
        sheet.due("can(0, 2)", x.can(0, 2), 1);
    }

    private static void clearing() {
        sheet.sentence("A THING has no STEPS: how many it had. UNKNOWN.");
        for (int bad : NO_THINGS) {
            sheet.refusedAlways("clear(" + bad + ")", UNKNOWN, x -> x.clear(bad));
        }
        for (int many = 0; many <= 8; many++) {
            for (int thing = 0; thing < 6; thing++) {
                WhoseWork x = Sheet.under("guild 0 may do 0");
                for (int i = 0; i < many; i++) {
                    for (int t = 0; t < 6; t++) {
                        x.step(t, at(1), at(0));
                    }
                }
                sheet.due("clear(" + thing + ")", x.clear(thing), many);
                sheet.due("clear(" + thing + ") again", x.clear(thing), 0);
                for (int t = 0; t < 6; t++) {
                    sheet.due("count(" + (4 + t) + ")", x.count(4 + t), t == thing ? 0 : many);
                }
                sheet.due("step(" + thing + ", ..)", x.step(thing, at(1), NONE), 1);
                sheet.due("fewest, the other one being cleared, too", x.fewest(thing, 0), NONE);
            }
        }
    }

    // ---- prices

    private static void prices() {
        sheet.sentence("a PRICE for each VERB (0 .. 99; 1 at first): that which it was. UNKNOWN: the GUILD; OUTSIDE.");
        WhoseWork x = new WhoseWork();
        for (int guild = 0; guild < 6; guild++) {
            for (int verb = 0; verb < 6; verb++) {
                sheet.due("price(" + guild + ", " + verb + ", ..) at first", x.price(guild, verb, 6 * guild + verb), 1);
            }
        }
        for (int guild = 0; guild < 6; guild++) {
            for (int verb = 0; verb < 6; verb++) {
                sheet.due("price(" + guild + ", " + verb + ", 99)", x.price(guild, verb, 99), 6 * guild + verb);
                sheet.due("price(" + guild + ", " + verb + ", 0)", x.price(guild, verb, 0), 99);
                sheet.due("price(" + guild + ", " + verb + ", 1)", x.price(guild, verb, 1), 0);
            }
        }
        for (int bad : NO_GUILDS) {
            sheet.refusedAlways("price(" + bad + ", 0, 0)", UNKNOWN, y -> y.price(bad, 0, 0));
            sheet.refusedAlways("price(" + bad + ", 5, 99)", UNKNOWN, y -> y.price(bad, 5, 99));
            sheet.refusedAlways("price(" + bad + ", 6, 100)", UNKNOWN, y -> y.price(bad, 6, 100));
            sheet.refusedAlways("price(" + bad + ", -1, -1)", UNKNOWN, y -> y.price(bad, -1, -1));
        }
        for (int bad : new int[] {-1, 6, 7, LOW, HIGH}) {
            sheet.refusedAlways("price(0, " + bad + ", 7)", OUTSIDE, y -> y.price(0, bad, 7));
            sheet.refusedAlways("price(5, " + bad + ", 7)", OUTSIDE, y -> y.price(5, bad, 7));
        }
        for (int bad : new int[] {-1, 100, 101, LOW, HIGH}) {
            sheet.refusedAlways("price(0, 0, " + bad + ")", OUTSIDE, y -> y.price(0, 0, bad));
            sheet.refusedAlways("price(5, 5, " + bad + ")", OUTSIDE, y -> y.price(5, 5, bad));
        }
    }

    private static void daysOfGuilds() {
        sheet.sentence("DAYS of each WORK (1 .. 9; 1 at first): that which they were. UNKNOWN; OUTSIDE.");
        WhoseWork x = new WhoseWork();
        for (int guild = 0; guild < 6; guild++) {
            sheet.due("days(" + guild + ", ..) at first", x.days(guild, guild + 2), 1);
        }
        for (int guild = 0; guild < 6; guild++) {
            sheet.due("days(" + guild + ", 9)", x.days(guild, 9), guild + 2);
            sheet.due("days(" + guild + ", 1)", x.days(guild, 1), 9);
            sheet.due("days(" + guild + ", 1)", x.days(guild, 1), 1);
        }
        for (int bad : NO_GUILDS) {
            for (int v : new int[] {1, 9, 0, 10}) {
                sheet.refusedAlways("days(" + bad + ", " + v + ")", UNKNOWN, y -> y.days(bad, v));
            }
        }
        for (int bad : new int[] {0, -1, 10, 11, LOW, HIGH}) {
            sheet.refusedAlways("days(0, " + bad + ")", OUTSIDE, y -> y.days(0, bad));
            sheet.refusedAlways("days(5, " + bad + ")", OUTSIDE, y -> y.days(5, bad));
        }
    }

    private static void carrying() {
        sheet.sentence("To CARRY costs so much (0 .. 99; 0 at first): that which it was. OUTSIDE.");
        WhoseWork x = new WhoseWork();
        sheet.due("carry(99)", x.carry(99), 0);
        sheet.due("carry(0)", x.carry(0), 99);
        sheet.due("carry(1)", x.carry(1), 0);
        sheet.due("carry(1)", x.carry(1), 1);
        for (int bad : new int[] {-1, -2, 100, 101, LOW, HIGH}) {
            sheet.refusedAlways("carry(" + bad + ")", OUTSIDE, y -> y.carry(bad));
        }
    }

    // ---- a way told by hand

    private static WhoseWork eightSteps() {
        WhoseWork x = Sheet.under("guild 5 may all;guild 0 may do 1;guild 4 not all");
        for (int i = 0; i < 8; i++) {
            x.step(3, at(0), NONE);
            x.step(4, at(0), at(1));
        }
        return x;
    }

    private static int allBy(int guild) {
        return guilds(guild, guild, guild, guild, guild, guild, guild, guild);
    }

    private static int guilds(int... row) {
        return Sheet.guilds(row);
    }

    private static void judgedStepByStep() {
        sheet.sentence("STEP i by GUILD guilds >> 3 i & 7 with choice choices >> i & 1: the first STEP that is not as it must be");
        WhoseWork x = eightSteps();
        sheet.due("judge of all by 5", x.judge(3, allBy(5), 0), NONE);
        sheet.due("judge of all by 5, the other works", x.judge(4, allBy(5), 255), NONE);
        sheet.due("judge of all by 0, the other works", x.judge(4, 0, 255), NONE);
        for (int i = 0; i < 8; i++) {
            int others = allBy(5) & ~(7 << 3 * i);
            for (int guild = 0; guild < 8; guild++) {
                // 6 and 7 are no guilds; 0 to 4 may not that work; 0 may the other one
                sheet.due("judge, step " + i + " by " + guild, x.judge(3, others | guild << 3 * i, 0), guild == 5 ? NONE : i);
                sheet.due("judge, step " + i + " by " + guild + ", the other work", x.judge(4, others | guild << 3 * i, 1 << i),
                    guild == 5 || guild == 0 ? NONE : i);
            }
            sheet.due("judge, choice 1 of step " + i + ", which has none", x.judge(3, allBy(5), 1 << i), i);
            for (int j = 0; j < 8; j++) {
                sheet.due("judge, steps " + i + " and " + j, x.judge(3, others | 7 << 3 * i, 1 << j), Math.min(i, j));
            }
        }
        sheet.sentence("judge: UNKNOWN");
        for (int bad : NO_THINGS) {
            sheet.refusedAlways("judge(" + bad + ", 0, 0)", UNKNOWN, y -> y.judge(bad, 0, 0));
            sheet.refusedAlways("judge(" + bad + ", -1, -1)", UNKNOWN, y -> y.judge(bad, -1, -1));
        }
    }

    private static void judgedBeyond() {
        sheet.sentence("judge: bits behind those of the last STEP");
        WhoseWork x = eightSteps();
        sheet.due("24 bits on, all set", x.judge(3, allBy(5) | 0xFF000000, 0), NONE);
        sheet.due("the highest bit of the guilds", x.judge(3, allBy(5) | LOW, 0), NONE);
        sheet.due("choices 8 bits on", x.judge(3, allBy(5), 0xFFFFFF00), NONE);
        sheet.due("the highest bit of the choices", x.judge(3, allBy(5), LOW), NONE);
        sheet.due("all bits of the guilds", x.judge(3, -1, 0), 0);
        sheet.due("all bits of the choices", x.judge(3, allBy(5), -1), 0);
        for (int many = 0; many < 8; many++) {
            WhoseWork y = Sheet.under("guild 5 may all");
            for (int i = 0; i < many; i++) {
                y.step(0, at(0), NONE);
            }
            int beyond = -1 << 3 * many;
            sheet.due("judge of " + many + " steps", y.judge(0, allBy(5) | beyond, -1 << many), NONE);
        }
    }

    private static void toldRefused() {
        sheet.sentence("told: UNKNOWN; OUTSIDE (what 0 .. 2); NOT: it is none; the first of these that fits");
        for (int bad : NO_THINGS) {
            for (int what : new int[] {0, 2, 3, -1}) {
                sheet.refusedAlways("told(" + bad + ", 7, 0, " + what + ")", UNKNOWN, x -> x.told(bad, 7, 0, what));
            }
        }
        for (int what : new int[] {-1, 3, 4, LOW, HIGH}) {
            sheet.refusedAlways("told(0, 7, 1, " + what + ")", OUTSIDE, x -> x.told(0, 7, 1, what));
            sheet.refusedAlways("told(5, 0, 0, " + what + ")", OUTSIDE, x -> x.told(5, 0, 0, what));
        }
        for (int what = 0; what <= 2; what++) {
            int w = what;
            sheet.refused(State.SOME, "told(0, 7, 0, " + what + ")", NOT, x -> x.told(0, 7, 0, w));
            sheet.refused(State.SOME, "told(0, 0, 2, " + what + ")", NOT, x -> x.told(0, 0, 2, w));
            sheet.refused(State.CRAMMED, "told(5, -1, 0, " + what + ")", NOT, x -> x.told(5, -1, 0, w));
            WhoseWork x = eightSteps();
            for (int i = 0; i < 8; i++) {
                int others = allBy(5) & ~(7 << 3 * i);
                sheet.due("told, step " + i + " by 6", x.told(3, others | 6 << 3 * i, 0, what), NOT);
                sheet.due("told, step " + i + " by 4", x.told(3, others | 4 << 3 * i, 0, what), NOT);
                sheet.due("told, choice of step " + i, x.told(3, allBy(5), 1 << i, what), NOT);
            }
            sheet.due("told of a way", x.told(3, allBy(5), 0, what), what == 2 ? 32 : 8);
            sheet.due("told of a way, bits behind it", x.told(3, allBy(5) | 0xFF000000, 0xFFFFFF00, what), what == 2 ? 32 : 8);
        }
    }

    private static void toldCosts() {
        sheet.sentence("the PRICE of its VERB; where it is by another GUILD than the STEP ahead, CARRY, too; likewise DAYS, and one");
        WhoseWork x = Sheet.under("guild 0 may all;guild 1 may all;guild 2 beside 0 all");
        x.step(0, at(0), at(5));
        x.step(0, at(0), at(5));
        x.step(0, at(0), at(5));
        x.price(0, 0, 99);
        x.price(0, 5, 0);
        x.price(1, 0, 10);
        x.price(2, 0, 20);
        x.days(0, 9);
        x.days(1, 2);
        // at first carrying costs nothing, but a day
        dueTold(x, guilds(0, 0, 0), 0, 297, 27, 1);
        dueTold(x, guilds(0, 0, 0), 7, 0, 27, 1);
        dueTold(x, guilds(0, 0, 0), 2, 198, 27, 1);
        dueTold(x, guilds(0, 1, 0), 0, 208, 22, 3);
        x.carry(99);
        dueTold(x, guilds(0, 0, 0), 0, 297, 27, 1);
        dueTold(x, guilds(1, 0, 0), 0, 307, 21, 3);
        dueTold(x, guilds(0, 0, 1), 0, 307, 21, 3);
        dueTold(x, guilds(0, 1, 0), 0, 406, 22, 3);
        dueTold(x, guilds(0, 1, 2), 0, 327, 14, 7);
        // he who is only beside is not carried to
        dueTold(x, guilds(2, 2, 2), 0, 60, 3, 5);
    }

    private static void dueTold(WhoseWork x, int guilds, int choices, int cost, int days, int hands) {
        sheet.due("told(0, " + guilds + ", " + choices + ", 0)", x.told(0, guilds, choices, 0), cost);
        sheet.due("told(0, " + guilds + ", " + choices + ", 1)", x.told(0, guilds, choices, 1), days);
        sheet.due("told(0, " + guilds + ", " + choices + ", 2)", x.told(0, guilds, choices, 2), hands);
    }

    private static void toldHands() {
        sheet.sentence("HANDS of it: its GUILDS, and those beside whom some of them do what they only MAY so");
        WhoseWork x = Sheet.under("guild 0 beside 5 do 0;guild 0 may do 1;guild 1 beside 0 all;guild 5 beside 0 all");
        steps(x, 0, at(0));
        steps(x, 1, at(1));
        steps(x, 2, at(0), at(1));
        sheet.due("beside 5", x.told(0, 0, 0, 2), 33);
        sheet.due("by itself", x.told(1, 0, 0, 2), 1);
        sheet.due("1 beside 0", x.told(0, 1, 0, 2), 3);
        sheet.due("5 beside 0, 0 beside 5", x.told(2, guilds(5, 0), 0, 2), 33);
        sheet.due("0 beside 5, then 1 beside 0", x.told(2, guilds(0, 1), 0, 2), 35);
        // the one beside whom needs no leave of its own
        WhoseWork y = Sheet.under("guild 2 beside 3 all;guild 3 not all");
        steps(y, 0, at(0));
        sheet.due("2 beside 3, who may not", y.told(0, 2, 0, 2), 12);
        sheet.due("can(0, 12)", y.can(0, 12), 1);
        sheet.due("can(0, 4)", y.can(0, 4), 0);
    }

    // ---- sets

    private static void setsAsked() {
        sheet.sentence("can: UNKNOWN; OUTSIDE: the set (0 .. 63)");
        for (int bad : NO_THINGS) {
            for (int set : new int[] {0, 63, 64, -1}) {
                sheet.refusedAlways("can(" + bad + ", " + set + ")", UNKNOWN, x -> x.can(bad, set));
            }
        }
        for (int bad : NO_SETS) {
            sheet.refusedAlways("can(0, " + bad + ")", OUTSIDE, x -> x.can(0, bad));
            sheet.refusedAlways("can(5, " + bad + ")", OUTSIDE, x -> x.can(5, bad));
        }
        sheet.sentence("CAN: if there is a WAY with all HANDS in it");
        WhoseWork x = Sheet.under("guild 0 may do 0;guild 1 may do 1;guild 2 beside 5 do 0");
        steps(x, 0, at(0), at(1));
        x.step(1, at(0), at(1));
        for (int set = 0; set < 64; set++) {
            boolean first = (set & 1) != 0 || (set & 36) == 36;
            boolean second = (set & 2) != 0;
            sheet.due("can(0, " + set + ")", x.can(0, set), first && second ? 1 : 0);
            sheet.due("can(1, " + set + ")", x.can(1, set), first || second ? 1 : 0);
            sheet.due("can(2, " + set + ")", x.can(2, set), 1);
        }
    }

    private static void fewestOnes() {
        sheet.sentence("fewest: UNKNOWN; OUTSIDE");
        for (int bad : NO_THINGS) {
            for (int what : new int[] {0, 1, 2, -1}) {
                sheet.refusedAlways("fewest(" + bad + ", " + what + ")", UNKNOWN, x -> x.fewest(bad, what));
            }
        }
        for (int bad : NEITHER_0_NOR_1) {
            sheet.refusedAlways("fewest(0, " + bad + ")", OUTSIDE, x -> x.fewest(0, bad));
            sheet.refusedAlways("fewest(5, " + bad + ")", OUTSIDE, x -> x.fewest(5, bad));
        }
        sheet.sentence("FEWEST: how many GUILDS, the set; NONE");
        WhoseWork x = Sheet.under("guild 0 may do 0;guild 1 may do 1;guild 2 may do 2;guild 3 may do 3;guild 4 may do 4;guild 5 may do 5 to 0");
        for (int verb = 0; verb < 6; verb++) {
            sheet.due("fewest(0, 0) of " + verb, x.fewest(0, 0), verb);
            sheet.due("fewest(0, 1) of " + verb, x.fewest(0, 1), (1 << verb) - 1);
            steps(x, 0, at(verb));
        }
        sheet.due("fewest(0, 0) of all six", x.fewest(0, 0), 6);
        sheet.due("fewest(0, 1) of all six", x.fewest(0, 1), 63);
        steps(x, 0, Sheet.work(5, 0, 1));
        sheet.due("fewest(0, 0), one being free", x.fewest(0, 0), NONE);
        sheet.due("fewest(0, 1), one being free", x.fewest(0, 1), NONE);
    }

    private static void fewestOfAsMany() {
        sheet.sentence("of the fewest, of these the least number");
        // 3 alone, or 0 beside 1; 4 or 5
        WhoseWork x = Sheet.under("guild 0 beside 1 do 0;guild 3 may do 0;guild 5 may do 1;guild 4 may do 1;guild 2 beside 0 do 2;guild 1 beside 2 do 2");
        steps(x, 0, at(0));
        steps(x, 1, at(1));
        steps(x, 2, at(2));
        dueFewest(x, 0, 1, 8);
        dueFewest(x, 1, 1, 16);
        dueFewest(x, 2, 2, 5);
        // 0, 1 and 2 make the first and the last: three; 3 and two of the last: three, too
        steps(x, 3, at(0), at(2));
        dueFewest(x, 3, 3, 7);
    }

    private static void dueFewest(WhoseWork x, int thing, int many, int set) {
        sheet.due("fewest(" + thing + ", 0)", x.fewest(thing, 0), many);
        sheet.due("fewest(" + thing + ", 1)", x.fewest(thing, 1), set);
    }

    // ---- the cheapest, the soonest

    private static void bestRefused() {
        sheet.sentence("best: UNKNOWN; OUTSIDE (the set, what)");
        for (int bad : NO_THINGS) {
            sheet.refusedAlways("best(" + bad + ", 63, 0)", UNKNOWN, x -> x.best(bad, 63, 0));
            sheet.refusedAlways("best(" + bad + ", 64, 0)", UNKNOWN, x -> x.best(bad, 64, 0));
            sheet.refusedAlways("best(" + bad + ", 0, 2)", UNKNOWN, x -> x.best(bad, 0, 2));
        }
        for (int bad : NO_SETS) {
            sheet.refusedAlways("best(0, " + bad + ", 0)", OUTSIDE, x -> x.best(0, bad, 0));
            sheet.refusedAlways("best(5, " + bad + ", 1)", OUTSIDE, x -> x.best(5, bad, 1));
        }
        for (int bad : NEITHER_0_NOR_1) {
            sheet.refusedAlways("best(0, 63, " + bad + ")", OUTSIDE, x -> x.best(0, 63, bad));
            sheet.refusedAlways("best(5, 0, " + bad + ")", OUTSIDE, x -> x.best(5, 0, bad));
        }
    }

    private static void bestOnes() {
        sheet.sentence("CHEAPEST, SOONEST: the least cost, the fewest days of a WAY of which all HANDS are in a set; none");
        WhoseWork x = Sheet.under("guild 0 may all;guild 1 beside 2 all");
        steps(x, 0, at(0));
        x.price(0, 0, 5);
        x.days(0, 5);
        x.price(1, 0, 3);
        x.days(1, 3);
        for (int set = 0; set < 64; set++) {
            int due = (set & 6) == 6 ? 3 : (set & 1) != 0 ? 5 : NONE;
            sheet.due("best(0, " + set + ", 0)", x.best(0, set, 0), due);
            sheet.due("best(0, " + set + ", 1)", x.best(0, set, 1), due);
        }
        // staying against carrying, as dear, and a little dearer
        WhoseWork y = Sheet.under("guild 0 may all;guild 1 may do 1");
        steps(y, 0, at(0), at(1), at(0));
        y.price(0, 1, 20);
        y.price(1, 1, 0);
        int[] carries = {0, 9, 10, 11, 99};
        int[] costs = {2, 20, 22, 22, 22};
        for (int i = 0; i < carries.length; i++) {
            y.carry(carries[i]);
            sheet.due("best(0, 3, 0), carrying " + carries[i], y.best(0, 3, 0), costs[i]);
        }
        // a day for each carrying, two days saved
        int[] days = {1, 2, 3, 4, 9};
        int[] soonest = {3, 6, 9, 11, 21};
        for (int i = 0; i < days.length; i++) {
            y.days(0, days[i]);
            sheet.due("best(0, 3, 1), days " + days[i], y.best(0, 3, 1), soonest[i]);
        }
        sheet.due("best(0, 2, 0)", y.best(0, 2, 0), NONE);
        sheet.due("best(0, 2, 1)", y.best(0, 2, 1), NONE);
    }

    private static void dearestAndSlowest() {
        sheet.sentence("PRICE 99, CARRY 99, DAYS 9 in each of 8 STEPS; and 0");
        WhoseWork x = Sheet.under("guild 0 may do 0;guild 5 may do 5");
        for (int i = 0; i < 8; i++) {
            x.step(0, at(i % 2 * 5), NONE);
        }
        x.carry(99);
        x.price(0, 0, 99);
        x.price(5, 5, 99);
        x.days(0, 9);
        x.days(5, 9);
        sheet.due("best(0, 33, 0)", x.best(0, 33, 0), 1485);
        sheet.due("best(0, 33, 1)", x.best(0, 33, 1), 79);
        sheet.due("told(.., 0)", x.told(0, guilds(0, 5, 0, 5, 0, 5, 0, 5), 0, 0), 1485);
        sheet.due("told(.., 1)", x.told(0, guilds(0, 5, 0, 5, 0, 5, 0, 5), 0, 1), 79);
        sheet.due("way(0, 63, 7, 0)", x.way(0, 63, 7, 0), 5);
        x.price(0, 0, 0);
        x.price(5, 5, 0);
        x.carry(0);
        sheet.due("best(0, 33, 0), for nothing", x.best(0, 33, 0), 0);
        sheet.due("way(0, 63, 7, 0)", x.way(0, 63, 7, 0), 5);
        sheet.due("way(0, 63, 6, 0)", x.way(0, 63, 6, 0), 0);
    }

    private static void wayRefused() {
        sheet.sentence("way: UNKNOWN; OUTSIDE: i below 0 (the set, what)");
        for (int bad : NO_THINGS) {
            sheet.refusedAlways("way(" + bad + ", 63, 0, 0)", UNKNOWN, x -> x.way(bad, 63, 0, 0));
            sheet.refusedAlways("way(" + bad + ", 64, -1, 2)", UNKNOWN, x -> x.way(bad, 64, -1, 2));
        }
        for (int bad : NO_SETS) {
            sheet.refusedAlways("way(0, " + bad + ", 0, 0)", OUTSIDE, x -> x.way(0, bad, 0, 0));
            sheet.refusedAlways("way(5, " + bad + ", 8, 1)", OUTSIDE, x -> x.way(5, bad, 8, 1));
        }
        for (int bad : new int[] {-1, -2, LOW, LOW + 1}) {
            sheet.refusedAlways("way(0, 63, " + bad + ", 0)", OUTSIDE, x -> x.way(0, 63, bad, 0));
            sheet.refusedAlways("way(5, 0, " + bad + ", 1)", OUTSIDE, x -> x.way(5, 0, bad, 1));
        }
        for (int bad : NEITHER_0_NOR_1) {
            sheet.refusedAlways("way(0, 63, 0, " + bad + ")", OUTSIDE, x -> x.way(0, 63, 0, bad));
            sheet.refusedAlways("way(5, 0, 9, " + bad + ")", OUTSIDE, x -> x.way(5, 0, 9, bad));
        }
    }

    private static void waySteps() {
        sheet.sentence("GUILD of STEP i, its choice; NONE: there is none, or not such a STEP");
        for (int many = 0; many <= 8; many++) {
            WhoseWork x = Sheet.under("guild 4 may do 1");
            for (int i = 0; i < many; i++) {
                x.step(0, at(0), at(1));
            }
            for (int i : new int[] {0, 1, 2, 3, 4, 5, 6, 7, 8, 9, 100, HIGH - 1, HIGH}) {
                sheet.due("way(0, 63, " + i + ", 0) of " + many, x.way(0, 63, i, 0), i < many ? 4 : NONE);
                sheet.due("way(0, 16, " + i + ", 1) of " + many, x.way(0, 16, i, 1), i < many ? 1 : NONE);
                sheet.due("way(0, 47, " + i + ", 0) of " + many, x.way(0, 47, i, 0), NONE);
                sheet.due("way(0, 0, " + i + ", 1) of " + many, x.way(0, 0, i, 1), NONE);
            }
        }
    }

    private static void wayFirstOfSeveral() {
        sheet.sentence("WAY of the CHEAPEST one: the first (STEP by STEP, by GUILDS, then choices)");
        WhoseWork x = Sheet.under("guild 2 may all;guild 1 may do 1;guild 5 may all;guild 0 beside 3 do 2");
        x.step(0, at(1), at(2));
        x.step(0, at(0), at(1));
        x.step(0, at(0), NONE);
        // all as cheap: the least guild, though by its other work
        dueWay(x, 63, 0, 1, 2, 1, 1, 0);
        dueWay(x, 55, 1, 1, 2, 0, 1, 0);
        dueWay(x, 52, 2, 2, 2, 0, 0, 0);
        dueWay(x, 32, 5, 5, 5, 0, 0, 0);
        // with carrying, those that stay; the first step decides ahead of the others
        x.carry(1);
        dueWay(x, 63, 2, 2, 2, 0, 0, 0);
        // a cheaper one ahead of the first one, the other work ahead of the first, if cheaper
        x.price(5, 0, 0);
        dueWay(x, 63, 5, 5, 5, 0, 0, 0);
        x.price(5, 2, 0);
        dueWay(x, 63, 5, 5, 5, 1, 0, 0);
        x.price(2, 0, 0);
        x.price(2, 2, 0);
        dueWay(x, 63, 2, 2, 2, 1, 0, 0);
        // as dear by carrying as by staying: the lesser guild, though it is carried
        WhoseWork y = Sheet.under("guild 3 may all;guild 1 may do 1");
        steps(y, 0, at(0), at(1), at(0));
        y.price(3, 1, 21);
        y.carry(10);
        dueWay(y, 63, 3, 1, 3, 0, 0, 0);
        y.carry(11);
        dueWay(y, 63, 3, 3, 3, 0, 0, 0);
    }

    private static void dueWay(WhoseWork x, int set, int... row) {
        for (int i = 0; i < 3; i++) {
            sheet.due("way(0, " + set + ", " + i + ", 0)", x.way(0, set, i, 0), row[i]);
            sheet.due("way(0, " + set + ", " + i + ", 1)", x.way(0, set, i, 1), row[3 + i]);
        }
    }

    private static void longAheadOfShort() {
        sheet.sentence("a row of STEPS, 8 at most: what a longer one asks is nothing to a shorter one");
        for (int many = 0; many <= 8; many++) {
            WhoseWork x = Sheet.under("guild 0 may do 0;guild 1 may do 1;guild 2 may all");
            for (int i = 0; i < 8; i++) {
                steps(x, 0, at(i % 2));
                if (i < many) {
                    steps(x, 1, at(0));
                }
            }
            x.carry(99);
            x.price(2, 0, 80);
            x.price(2, 1, 80);
            x.days(2, 9);
            sheet.due("best(0, 63, 0)", x.best(0, 63, 0), 640);
            sheet.due("best(1, 63, 0) of " + many, x.best(1, 63, 0), many);
            sheet.due("best(0, 63, 1)", x.best(0, 63, 1), 15);
            sheet.due("best(1, 63, 1) of " + many, x.best(1, 63, 1), many);
            sheet.due("way(0, 63, 7, 0)", x.way(0, 63, 7, 0), 2);
            sheet.due("way(1, 63, the last, 0) of " + many, x.way(1, 63, Math.max(0, many - 1), 0), many == 0 ? NONE : 0);
            sheet.due("best(0, 63, 0) again", x.best(0, 63, 0), 640);
            x.clear(0);
            sheet.due("best(0, 63, 0) of one that is cleared", x.best(0, 63, 0), 0);
        }
    }

    // ---- alone

    private static void aloneOnes() {
        sheet.sentence("THINGS (with a STEP at least) that one GUILD CAN make, by bits. UNKNOWN.");
        for (int bad : NO_GUILDS) {
            sheet.refusedAlways("alone(" + bad + ")", UNKNOWN, x -> x.alone(bad));
        }
        WhoseWork x = Sheet.under("guild 0 may all;guild 5 may all;guild 1 beside 0 all;guild 2 may do 2");
        int made = 0;
        for (int thing = 0; thing < 6; thing++) {
            steps(x, thing, at(thing));
            made |= 1 << thing;
            sheet.due("alone(0)", x.alone(0), made);
            sheet.due("alone(5)", x.alone(5), made);
            sheet.due("alone(1), who is not alone", x.alone(1), 0);
            sheet.due("alone(2)", x.alone(2), made & 4);
            sheet.due("alone(3)", x.alone(3), 0);
        }
        x.clear(5);
        sheet.due("alone(0)", x.alone(0), 31);
        steps(x, 2, at(0));
        sheet.due("alone(2), a step being another's", x.alone(2), 0);
        sheet.due("alone(0)", x.alone(0), 31);
    }

    // ---- sly

    private static void slyRefused() {
        sheet.sentence("SLY with n (1 .. 9): UNKNOWN; OUTSIDE");
        for (int bad : NO_THINGS) {
            sheet.refusedAlways("sly(" + bad + ", 1, 0)", UNKNOWN, x -> x.sly(bad, 1, 0));
            sheet.refusedAlways("sly(" + bad + ", 0, 2)", UNKNOWN, x -> x.sly(bad, 0, 2));
        }
        for (int bad : new int[] {0, -1, 10, 11, LOW, HIGH}) {
            sheet.refusedAlways("sly(0, " + bad + ", 0)", OUTSIDE, x -> x.sly(0, bad, 0));
            sheet.refusedAlways("sly(5, " + bad + ", 1)", OUTSIDE, x -> x.sly(5, bad, 1));
        }
        for (int bad : NEITHER_0_NOR_1) {
            sheet.refusedAlways("sly(0, 1, " + bad + ")", OUTSIDE, x -> x.sly(0, 1, bad));
            sheet.refusedAlways("sly(5, 9, " + bad + ")", OUTSIDE, x -> x.sly(5, 9, bad));
        }
    }

    private static void slyOff() {
        sheet.sentence("of another DEPTH, at most n off");
        for (int depth = 0; depth < 10; depth++) {
            for (int allowed = 0; allowed < 10; allowed++) {
                WhoseWork x = Sheet.under("guild 3 may do 2 of 1 from " + allowed + " to " + allowed);
                steps(x, 4, Sheet.work(2, 1, depth));
                for (int n = 1; n <= 9; n++) {
                    int off = Math.abs(depth - allowed);
                    boolean found = off > 0 && off <= n;
                    sheet.due("sly(4, " + n + ", 0), from " + depth + " to " + allowed, x.sly(4, n, 0), found ? allowed : NONE);
                    sheet.due("sly(4, " + n + ", 1), from " + depth + " to " + allowed, x.sly(4, n, 1), found ? 1 : NONE);
                }
            }
        }
    }

    private static void slyWithoutWrap() {
        sheet.sentence("of another DEPTH (0 .. 9): of no other STUFF or VERB");
        WhoseWork x = Sheet.under("guild 0 may do 0 of 1 to 0;guild 0 may do 1 of 0 to 0");
        steps(x, 0, Sheet.work(0, 0, 9));
        steps(x, 1, Sheet.work(0, 3, 9));
        WhoseWork y = Sheet.under("guild 0 may do 0 of 0 from 9;guild 0 may do 0 of 3 from 9");
        steps(y, 0, Sheet.work(0, 1, 0));
        steps(y, 1, Sheet.work(1, 0, 0));
        for (int n = 1; n <= 9; n++) {
            for (int thing = 0; thing < 2; thing++) {
                sheet.due("sly(" + thing + ", " + n + ", 0) from depth 9", x.sly(thing, n, 0), NONE);
                sheet.due("sly(" + thing + ", " + n + ", 0) from depth 0", y.sly(thing, n, 0), NONE);
            }
        }
        // the first and the last work of all
        WhoseWork z = Sheet.under("guild 0 may all;guild 0 not do 0 of 0 to 0;guild 0 not do 5 of 3 from 9");
        steps(z, 0, 0);
        steps(z, 1, 239);
        sheet.due("sly of work 0", z.sly(0, 1, 0), 1);
        sheet.due("sly of work 239", z.sly(1, 1, 0), 8);
    }

    private static void slyFewer() {
        sheet.sentence("fewer than it has (any, if it has none)");
        // a step that two must do; at depth 1 another two, at depth 2 one
        WhoseWork x = Sheet.under("guild 0 beside 1 do 0 to 0;guild 2 beside 3 do 0 from 1 to 1;guild 4 may do 0 from 2 to 2;guild 5 may do 1");
        steps(x, 0, at(0));
        sheet.due("sly(0, 1, 0)", x.sly(0, 1, 0), NONE);
        sheet.due("sly(0, 1, 1)", x.sly(0, 1, 1), NONE);
        sheet.due("sly(0, 2, 0)", x.sly(0, 2, 0), 2);
        sheet.due("sly(0, 2, 1)", x.sly(0, 2, 1), 1);
        // one that none can make: also by as many as three
        steps(x, 1, at(1), Sheet.work(0, 0, 3), at(1));
        steps(x, 2, at(1), Sheet.work(0, 0, 2), at(0), Sheet.work(0, 0, 3));
        sheet.due("fewest(1, 0)", x.fewest(1, 0), NONE);
        sheet.due("sly(1, 1, 0)", x.sly(1, 1, 0), 22);
        sheet.due("sly(1, 1, 1)", x.sly(1, 1, 1), 2);
        sheet.due("sly(1, 2, 0), two by 2 and 3", x.sly(1, 2, 0), 22);
        sheet.due("sly(2, 1, 1)", x.sly(2, 1, 1), 4);
        // two works that nobody may: one changed is not enough
        WhoseWork y = Sheet.under("guild 0 may from 1");
        steps(y, 0, at(0), at(0));
        sheet.due("two that are free", y.sly(0, 9, 0), NONE);
        // what needs one guild or none needs no fewer
        steps(y, 1, Sheet.work(0, 0, 1));
        sheet.due("one guild", y.sly(1, 9, 0), NONE);
        sheet.due("no steps", y.sly(2, 9, 0), NONE);
        sheet.due("no steps", y.sly(2, 9, 1), NONE);
        // from none to all six
        WhoseWork z = Sheet.under("guild 0 may do 0;guild 1 may do 1;guild 2 may do 2;guild 3 may do 3;guild 4 may do 4;guild 5 may do 5 from 1");
        steps(z, 0, at(0), at(1), at(2), at(3), at(4), at(5));
        sheet.due("to all six", z.sly(0, 1, 0), 101);
        sheet.due("to all six", z.sly(0, 1, 1), 6);
    }

    private static void slyFirst() {
        sheet.sentence("the fewest GUILDS; of several the first (by STEPS, choices, DEPTHS): 20 times the STEP, 10 times the choice and the DEPTH");
        // the least depth, not the nearest
        WhoseWork x = Sheet.under("guild 0 may do 0 from 2 to 2;guild 0 may do 0 from 6 to 6");
        steps(x, 0, Sheet.work(0, 0, 5));
        sheet.due("1 off", x.sly(0, 1, 0), 6);
        sheet.due("2 off", x.sly(0, 2, 0), 6);
        sheet.due("3 off", x.sly(0, 3, 0), 2);
        // the first work ahead of the other one, each step ahead of the next
        WhoseWork y = Sheet.under("guild 0 may from 1;guild 0 not do 4");
        y.step(0, at(0), at(1));
        sheet.due("the first work", y.sly(0, 1, 0), 1);
        y.step(1, at(4), at(1));
        sheet.due("the other one, the first being of no use", y.sly(1, 1, 0), 11);
        y.step(2, at(4), NONE);
        sheet.due("no other one", y.sly(2, 9, 0), NONE);
        WhoseWork z = Sheet.under("guild 0 may to 0;guild 1 may from 1");
        steps(z, 0, at(0), Sheet.work(0, 0, 1));
        sheet.due("the first step", z.sly(0, 9, 0), 1);
        sheet.due("the first step", z.sly(0, 9, 1), 1);
        steps(z, 0, at(0));
        sheet.due("the second step alone brings one guild", z.sly(0, 9, 0), 20);
        // fewer ahead of the first
        WhoseWork w = Sheet.under("guild 0 beside 1 do 0 from 1 to 1;guild 0 may do 0 from 2 to 2");
        steps(w, 0, at(0));
        sheet.due("two guilds, 1 off", w.sly(0, 1, 0), 1);
        sheet.due("one guild, 2 off", w.sly(0, 2, 0), 2);
        sheet.due("one guild, 2 off", w.sly(0, 2, 1), 1);
        slyLast();
    }

    private static void slyLast() {
        WhoseWork x = Sheet.under("guild 0 may do 0;guild 0 may do 5 of 3 from 9");
        steps(x, 0, 0, 0, 0, 0, 0, 0, 0);
        x.step(0, Sheet.work(5, 2, 8), Sheet.work(5, 3, 8));
        sheet.due("the last step, the other one, depth 9", x.sly(0, 1, 0), 159);
        WhoseWork y = Sheet.under("guild 0 may to 0");
        steps(y, 0, 1);
        sheet.due("the first step, depth 0", y.sly(0, 1, 0), 0);
        sheet.due("the first step, depth 0", y.sly(0, 1, 1), 1);
    }

    // ---- struck

    private static void struckRefused() {
        sheet.sentence("STRUCK for n (0 .. 6): UNKNOWN; OUTSIDE");
        for (int bad : NO_THINGS) {
            for (int n : new int[] {0, 6, 7, -1}) {
                sheet.refusedAlways("struck(" + bad + ", " + n + ")", UNKNOWN, x -> x.struck(bad, n));
            }
        }
        for (int bad : new int[] {-1, 7, 8, LOW, HIGH}) {
            sheet.refusedAlways("struck(0, " + bad + ")", OUTSIDE, x -> x.struck(0, bad));
            sheet.refusedAlways("struck(5, " + bad + ")", OUTSIDE, x -> x.struck(5, bad));
        }
    }

    private static void struckAtMost() {
        sheet.sentence("without which FEWEST has n GUILDS at most (bits; 0: none need be); none");
        for (int many = 0; many <= 6; many++) {
            WhoseWork x = Sheet.under("guild 0 may do 0;guild 1 may do 1;guild 2 may do 2;guild 3 may do 3;guild 4 may do 4;guild 5 may do 5");
            for (int verb = 0; verb < many; verb++) {
                steps(x, 0, at(verb));
            }
            for (int n = 0; n <= 6; n++) {
                sheet.due("struck(0, " + n + ") of " + many, x.struck(0, n), n >= many ? 0 : NONE);
            }
        }
        // one that cannot be made but without a bound
        WhoseWork x = Sheet.under("guild 0 may do 0;guild 0 not to 0");
        steps(x, 0, at(0));
        sheet.due("struck(0, 0)", x.struck(0, 0), NONE);
        sheet.due("struck(0, 1)", x.struck(0, 1), 2);
        sheet.due("struck(0, 6)", x.struck(0, 6), 2);
        steps(x, 1, at(1));
        sheet.due("struck(1, 6), whatever is struck out", x.struck(1, 6), NONE);
        // no bounds at all
        WhoseWork y = new WhoseWork();
        sheet.due("struck(0, 0), no bounds, no steps", y.struck(0, 0), 0);
        steps(y, 0, at(0));
        sheet.due("struck(0, 6), no bounds", y.struck(0, 6), NONE);
    }

    private static void struckFirstTen() {
        sheet.sentence("STRUCK: the fewest BOUNDS (of the first 10)");
        for (int onlys = 1; onlys <= 12; onlys++) {
            WhoseWork x = new WhoseWork();
            Sheet.enact(x, Sheet.lines("guild 1 only all", Math.min(onlys, 6)));
            if (onlys > 6) {
                Sheet.enact(x, Sheet.lines("guild 1 only all", onlys - 6));
            }
            Sheet.enact(x, "guild 1 not do 0;guild 0 may all");
            steps(x, 0, at(0));
            // the not alone, as long as it is of the first ten; else all the onlys, if they are
            int due = onlys == 1 ? 1 : onlys < 10 ? 1 << onlys : onlys == 10 ? 1023 : NONE;
            sheet.due("struck(0, 1) behind " + onlys, x.struck(0, 1), due);
        }
        // the tenth is of the first ten, the eleventh is not
        String nots = Sheet.lines("guild 3 not all", 8);
        WhoseWork ten = Sheet.under(nots, "guild 0 may all;guild 0 not all");
        steps(ten, 0, at(0));
        sheet.due("the tenth", ten.struck(0, 1), 512);
        WhoseWork eleven = Sheet.under(nots, "guild 3 not all;guild 0 may all;guild 0 not all");
        steps(eleven, 0, at(0));
        sheet.due("the eleventh", eleven.struck(0, 1), NONE);
        eleven.strike(4);
        sheet.due("the eleventh, now the tenth", eleven.struck(0, 1), 512);
        // those behind the tenth still count
        WhoseWork twenty = Sheet.under(nots, nots, "guild 0 may all;guild 1 may do 0;guild 1 not do 0;guild 0 not do 0");
        steps(twenty, 0, at(0));
        sheet.due("the last two of twenty", twenty.struck(0, 6), NONE);
        twenty.strike(19);
        sheet.due("the last struck out", twenty.struck(0, 6), 0);
    }

    private static void struckFewestAndLeast() {
        sheet.sentence("the fewest BOUNDS; of several the least number");
        // one of a high number ahead of two of low ones
        WhoseWork x = Sheet.under("guild 0 may all;guild 0 not all;guild 0 not all;guild 1 may all;guild 1 not all");
        steps(x, 0, at(0));
        sheet.due("one ahead of two", x.struck(0, 1), 16);
        // as many: the least number, so the lesser high bit
        x = Sheet.under("guild 0 may all;guild 1 may all;guild 1 not all;guild 0 not all");
        steps(x, 0, at(0));
        sheet.due("of two", x.struck(0, 1), 4);
        // 0 and 5, or 1 and 4: the highest bit decides
        x = Sheet.under("guild 0 not of 0;guild 1 not of 0;guild 0 may of 1;guild 1 may of 1;guild 1 not of 1;guild 0 not of 1;guild 2 only of 0");
        steps(x, 0, Sheet.work(0, 1, 0));
        sheet.due("4 ahead of 5", x.struck(0, 1), 16);
        // bounds that do not touch the thing are never struck
        x = Sheet.under("guild 0 not do 3;guild 0 may do 1;guild 2 only do 4;guild 0 not do 1");
        steps(x, 0, at(1));
        sheet.due("of those within", x.struck(0, 1), 8);
        // those that the other work of a step is within, too
        x = Sheet.under("guild 0 may do 1;guild 2 not do 2;guild 0 not do 1");
        x.step(0, at(0), at(1));
        x.step(1, at(1), at(0));
        sheet.due("of those that the other work is within", x.struck(0, 1), 4);
        sheet.due("of those that the first work is within", x.struck(1, 1), 4);
        // fewer guilds ask for more struck out
        x = Sheet.under("guild 0 may all;guild 0 not do 0;guild 1 may do 0;guild 0 not do 1;guild 2 may do 1");
        steps(x, 0, at(0), at(1), at(2));
        sheet.due("three", x.struck(0, 3), 0);
        sheet.due("two", x.struck(0, 2), 2);
        sheet.due("one", x.struck(0, 1), 10);
        sheet.due("none", x.struck(0, 0), NONE);
        sheet.due("count(0), all still there", x.count(0), 5);
    }

    // ---- a thing without steps, and asking

    private static void noSteps() {
        sheet.sentence("none at first: a THING without STEPS");
        WhoseWork[] objects = {new WhoseWork(), Sheet.under("guild 0 not all"), Sheet.under("guild 0 may all")};
        for (WhoseWork x : objects) {
            for (int thing = 0; thing < 6; thing++) {
                sheet.due("judge(" + thing + ", -1, -1)", x.judge(thing, -1, -1), NONE);
                for (int what = 0; what <= 2; what++) {
                    sheet.due("told(" + thing + ", -1, -1, " + what + ")", x.told(thing, -1, -1, what), 0);
                }
                for (int set : new int[] {0, 1, 63}) {
                    sheet.due("can(" + thing + ", " + set + ")", x.can(thing, set), 1);
                    sheet.due("best(" + thing + ", " + set + ", 0)", x.best(thing, set, 0), 0);
                    sheet.due("best(" + thing + ", " + set + ", 1)", x.best(thing, set, 1), 0);
                    sheet.due("way(" + thing + ", " + set + ", 0, 0)", x.way(thing, set, 0, 0), NONE);
                    sheet.due("way(" + thing + ", " + set + ", 0, 1)", x.way(thing, set, 0, 1), NONE);
                }
                sheet.due("fewest(" + thing + ", 0)", x.fewest(thing, 0), 0);
                sheet.due("fewest(" + thing + ", 1)", x.fewest(thing, 1), 0);
                sheet.due("sly(" + thing + ", 9, 0)", x.sly(thing, 9, 0), NONE);
                sheet.due("struck(" + thing + ", 0)", x.struck(thing, 0), 0);
            }
        }
    }

    private static void askingChangesNothing() {
        sheet.sentence("what is only asked changes nothing");
        for (State state : State.ALL) {
            sheet.unchanged(state, "judge(0, 0, 1)", x -> x.judge(0, 0, 1));
            sheet.unchanged(state, "told(0, 0, 1, 2)", x -> x.told(0, 0, 1, 2));
            sheet.unchanged(state, "can(2, 63)", x -> x.can(2, 63));
            sheet.unchanged(state, "fewest(2, 1)", x -> x.fewest(2, 1));
            sheet.unchanged(state, "best(2, 63, 0)", x -> x.best(2, 63, 0));
            sheet.unchanged(state, "way(2, 63, 7, 1)", x -> x.way(2, 63, 7, 1));
            sheet.unchanged(state, "alone(0)", x -> x.alone(0));
            sheet.unchanged(state, "sly(0, 9, 0)", x -> x.sly(0, 9, 0));
            sheet.unchanged(state, "struck(0, 1)", x -> x.struck(0, 1));
        }
    }
}
