import java.util.Arrays;

/** Whose work is it: guilds, the bounds of their works, and things made by works. */
public final class WhoseWork {
    public static final int NONE = -1, UNKNOWN = -2, OUTSIDE = -3, NOT = -4, FULL = -5;

    private static final int GUILDS = 6, VERBS = 6, STUFFS = 4, DEPTHS = 10;
    private static final int WORKS_OF_STUFF = DEPTHS, WORKS_OF_VERB = STUFFS * DEPTHS, WORKS = VERBS * WORKS_OF_VERB;
    private static final int SETS = 1 << GUILDS;

    private static final int BOUNDS = 20, LINES = 8, BYTES = 160;
    private static final int THINGS = 6, STEPS = 8, CHOICES = 2;
    private static final int SEIZURES = 16, YEAR = 24;
    private static final int STRIKABLE = 10;
    private static final int TOP_PRICE = 99, TOP_DAYS = 9;

    /** The cells of a bound, in the order in which bound() numbers them. */
    private static final int SORT = 0, GUILD = 1, BESIDE_WHOM = 2, VERB = 3, STUFF = 4, LEAST = 5, GREATEST = 6, CELLS = 7;

    private static final int SORT_MAY = 0, SORT_NOT = 1, SORT_ONLY = 2, SORT_BESIDE = 3, SORT_GRANT = 4;

    /** What a guild may: not at all, by itself, or beside guild H as BESIDE + H. */
    private static final int MAY_NOT = 0, MAY = 1, BESIDE = 2;

    private static final int FREE = 0, SHARED = 1, CLAIMED = 2;
    private static final int COST = 0, HANDS = 2;

    /** As a mask of bounds that count: every one of them. */
    private static final int ALL_BOUNDS = -1;

    /** Above what any way costs, and so small that a few of it still add up without a wrap. */
    private static final int NEVER = 1000000;

    /** More than any code of a step, a choice and a depth. */
    private static final int SLY_CODES = STEPS * CHOICES * DEPTHS;

    /** For each guild the sets that hold it: a family of sets is a long, bit s standing for the set s. */
    private static final long[] HOLDING = {
        0xAAAAAAAAAAAAAAAAL, 0xCCCCCCCCCCCCCCCCL, 0xF0F0F0F0F0F0F0F0L,
        0xFF00FF00FF00FF00L, 0xFFFF0000FFFF0000L, 0xFFFFFFFF00000000L
    };

    private static final long ALL_SETS = -1L;

    private final Text text;
    private final Reader reader;
    private final Law law;
    private final Tariff tariff;
    private final Maker maker;
    private final Thing[] things;
    private final Seizures seizures;
    private final int[] yearWorks;
    private int yearSize;

    public WhoseWork() {
        text = new Text();
        reader = new Reader(text);
        law = new Law();
        tariff = new Tariff();
        maker = new Maker(law, tariff);
        things = new Thing[THINGS];
        for (int i = 0; i < THINGS; i++) {
            things[i] = new Thing();
        }
        seizures = new Seizures();
        yearWorks = new int[YEAR];
    }

    // ---- bounds

    public int write(long bytes, int n) {
        if (isOff(n, 1, 8)) {
            return OUTSIDE;
        }
        if (text.size + n > BYTES) {
            return FULL;
        }
        for (int i = 0; i < n; i++) {
            text.bytes[text.size + i] = (int) (bytes >> 8 * i & 255);
        }
        text.size += n;
        return text.size;
    }

    public int erase() {
        int had = text.size;
        text.size = 0;
        return had;
    }

    public int fault() {
        return reader.readText();
    }

    public int bounds() {
        if (reader.readText() != NONE) {
            return NOT;
        }
        if (law.size + reader.lines > BOUNDS) {
            return FULL;
        }
        law.enact(reader.cells, reader.lines);
        text.size = 0;
        return law.size;
    }

    public int strike(int bound) {
        if (isNoBound(bound)) {
            return UNKNOWN;
        }
        law.strikeOut(bound);
        return law.size;
    }

    public int bound(int bound, int what) {
        if (isNoBound(bound)) {
            return UNKNOWN;
        }
        if (isOff(what, SORT, GREATEST)) {
            return OUTSIDE;
        }
        return law.cell(bound, what);
    }

    public int may(int guild, int work) {
        if (isNoGuild(guild) || isNoWork(work)) {
            return UNKNOWN;
        }
        return law.leave(guild, work, ALL_BOUNDS);
    }

    public int why(int guild, int work) {
        if (isNoGuild(guild) || isNoWork(work)) {
            return UNKNOWN;
        }
        return law.deciding(guild, work, ALL_BOUNDS);
    }

    public int who(int work) {
        if (isNoWork(work)) {
            return UNKNOWN;
        }
        return law.guildsThatMay(work);
    }

    public int works(int what, int i) {
        if (isOff(what, FREE, CLAIMED) || i < -1) {
            return OUTSIDE;
        }
        int found = 0;
        for (int work = 0; work < WORKS; work++) {
            if (law.isOfKind(work, what)) {
                if (found == i) {
                    return work;
                }
                found++;
            }
        }
        return i == -1 ? found : NONE;
    }

    // ---- things

    public int step(int thing, int work, int other) {
        if (isNoThing(thing) || isNoWork(work) || other != NONE && isNoWork(other)) {
            return UNKNOWN;
        }
        Thing made = things[thing];
        if (made.size == STEPS) {
            return FULL;
        }
        made.addStep(work, other);
        return made.size;
    }

    public int clear(int thing) {
        if (isNoThing(thing)) {
            return UNKNOWN;
        }
        int had = things[thing].size;
        things[thing].size = 0;
        return had;
    }

    public int price(int guild, int verb, int v) {
        if (isNoGuild(guild)) {
            return UNKNOWN;
        }
        if (isOff(verb, 0, VERBS - 1) || isOff(v, 0, TOP_PRICE)) {
            return OUTSIDE;
        }
        int was = tariff.prices[guild * VERBS + verb];
        tariff.prices[guild * VERBS + verb] = v;
        return was;
    }

    public int days(int guild, int v) {
        if (isNoGuild(guild)) {
            return UNKNOWN;
        }
        if (isOff(v, 1, TOP_DAYS)) {
            return OUTSIDE;
        }
        int was = tariff.daysOfGuilds[guild];
        tariff.daysOfGuilds[guild] = v;
        return was;
    }

    public int carry(int v) {
        if (isOff(v, 0, TOP_PRICE)) {
            return OUTSIDE;
        }
        int was = tariff.carryPrice;
        tariff.carryPrice = v;
        return was;
    }

    public int judge(int thing, int guilds, int choices) {
        if (isNoThing(thing)) {
            return UNKNOWN;
        }
        return maker.firstWrongStep(things[thing], guilds, choices);
    }

    public int told(int thing, int guilds, int choices, int what) {
        if (isNoThing(thing)) {
            return UNKNOWN;
        }
        if (isOff(what, COST, HANDS)) {
            return OUTSIDE;
        }
        if (maker.firstWrongStep(things[thing], guilds, choices) != NONE) {
            return NOT;
        }
        return what == HANDS
            ? maker.handsOfWay(things[thing], guilds, choices)
            : maker.costOfWay(things[thing], guilds, choices, what);
    }

    public int can(int thing, int set) {
        if (isNoThing(thing)) {
            return UNKNOWN;
        }
        if (isNoSet(set)) {
            return OUTSIDE;
        }
        return maker.isMadeBy(things[thing], set) ? 1 : 0;
    }

    public int fewest(int thing, int what) {
        if (isNoThing(thing)) {
            return UNKNOWN;
        }
        if (isOff(what, 0, 1)) {
            return OUTSIDE;
        }
        int set = Maker.leastSet(maker.makers(things[thing]));
        return set == NONE || what == 1 ? set : Integer.bitCount(set);
    }

    public int best(int thing, int set, int what) {
        if (isNoThing(thing)) {
            return UNKNOWN;
        }
        if (isNoSet(set) || isOff(what, 0, 1)) {
            return OUTSIDE;
        }
        int least = maker.reckon(things[thing], set, what);
        return least == NEVER ? NONE : least;
    }

    public int way(int thing, int set, int i, int what) {
        if (isNoThing(thing)) {
            return UNKNOWN;
        }
        if (isNoSet(set) || i < 0 || isOff(what, 0, 1)) {
            return OUTSIDE;
        }
        int least = maker.reckon(things[thing], set, COST);
        if (least == NEVER || i >= things[thing].size) {
            return NONE;
        }
        int guild = maker.cheapestGuild(things[thing], set, i, least);
        if (guild == NONE || what == 0) {
            return guild;
        }
        return maker.cheapestChoice(things[thing], set, i, guild);
    }

    public int alone(int guild) {
        if (isNoGuild(guild)) {
            return UNKNOWN;
        }
        int made = 0;
        for (int i = 0; i < THINGS; i++) {
            if (things[i].size > 0 && maker.isMadeBy(things[i], 1 << guild)) {
                made |= 1 << i;
            }
        }
        return made;
    }

    public int sly(int thing, int n, int what) {
        if (isNoThing(thing)) {
            return UNKNOWN;
        }
        if (isOff(n, 1, DEPTHS - 1) || isOff(what, 0, 1)) {
            return OUTSIDE;
        }
        int change = maker.slyest(things[thing], n);
        if (change == NONE) {
            return NONE;
        }
        return what == 0 ? change % SLY_CODES : change / SLY_CODES;
    }

    public int struck(int thing, int n) {
        if (isNoThing(thing)) {
            return UNKNOWN;
        }
        if (isOff(n, 0, GUILDS)) {
            return OUTSIDE;
        }
        return maker.fewestStruck(things[thing], n);
    }

    public int takes(int bound, int guild, int what) {
        if (isNoBound(bound) || isNoGuild(guild)) {
            return UNKNOWN;
        }
        if (isOff(what, 0, 1)) {
            return OUTSIDE;
        }
        int without = ~(1 << bound);
        return what == 0 ? law.countLost(guild, ALL_BOUNDS, without) : law.countLost(guild, without, ALL_BOUNDS);
    }

    public int idle() {
        int found = 0;
        for (int bound = 0; bound < law.size; bound++) {
            if (law.isIdle(bound)) {
                found |= 1 << bound;
            }
        }
        return found;
    }

    // ---- seizures, a year

    public int seize(int guild, int work, int n) {
        if (isNoGuild(guild) || isNoWork(work)) {
            return UNKNOWN;
        }
        if (isOff(n, 0, law.size)) {
            return OUTSIDE;
        }
        if (seizures.size == SEIZURES) {
            return FULL;
        }
        seizures.addSeizure(guild, work, n);
        return seizures.size;
    }

    public int right(int i) {
        if (isOff(i, -1, seizures.size - 1)) {
            return UNKNOWN;
        }
        return i == -1 ? seizures.firstWrong(law) : seizures.isRight(i, law) ? 1 : 0;
    }

    public int year(int work) {
        if (isNoWork(work)) {
            return UNKNOWN;
        }
        if (yearSize == YEAR) {
            return FULL;
        }
        yearWorks[yearSize] = work;
        yearSize++;
        return yearSize;
    }

    public int yearly(int guild) {
        if (isNoGuild(guild)) {
            return UNKNOWN;
        }
        int found = 0;
        for (int i = 0; i < yearSize; i++) {
            if (law.leave(guild, yearWorks[i], ALL_BOUNDS) != MAY_NOT) {
                found++;
            }
        }
        return found;
    }

    public int count(int what) {
        if (isOff(what, 0, 3 + THINGS)) {
            return OUTSIDE;
        }
        switch (what) {
            case 0: return law.size;
            case 1: return text.size;
            case 2: return seizures.size;
            case 3: return yearSize;
            default: return things[what - 4].size;
        }
    }

    // ---- what a call refuses

    private static boolean isOff(int number, int least, int greatest) {
        return number < least || number > greatest;
    }

    private static boolean isNoGuild(int guild) {
        return isOff(guild, 0, GUILDS - 1);
    }

    private static boolean isNoWork(int work) {
        return isOff(work, 0, WORKS - 1);
    }

    private static boolean isNoThing(int thing) {
        return isOff(thing, 0, THINGS - 1);
    }

    private static boolean isNoSet(int set) {
        return isOff(set, 0, SETS - 1);
    }

    private boolean isNoBound(int bound) {
        return isOff(bound, 0, law.size - 1);
    }

    /** The bytes told so far. */
    private static final class Text {
        final int[] bytes = new int[BYTES];
        int size;
    }

    /** Reads a text, token by token, to its end or to its first fault. */
    private static final class Reader {
        private static final int END = 0, WORD = 1, NUMBER = 2, OTHER = 3;

        private final Text text;
        private int kind;
        private int start;
        private int end;

        /** The lines read without a fault, each as the cells of a bound. */
        final int[] cells = new int[LINES * CELLS];
        int lines;

        Reader(Text text) {
            this.text = text;
        }

        /** The place of the first fault; NONE. */
        int readText() {
            lines = 0;
            end = 0;
            nextToken();
            boolean more = true;
            for (int line = 0; line < LINES && more; line++) {
                if (!readLine(line * CELLS)) {
                    return start;
                }
                lines++;
                // behind the last line that there may be, a ; is left as the fault
                more = lines < LINES && takeSemicolon();
            }
            return kind == END ? NONE : start;
        }

        /** Each of the read methods leaves the token that cannot stand there as the present one. */
        private boolean readLine(int at) {
            boolean grant = takeWord("grant");
            if (!grant && !takeWord("guild")) {
                return false;
            }
            int guild = takeNumber(0, GUILDS - 1, NONE);
            if (guild == NONE) {
                return false;
            }
            int sort = grant ? SORT_GRANT : takeSort();
            if (sort == NONE) {
                return false;
            }
            int whom = sort == SORT_BESIDE ? takeNumber(0, GUILDS - 1, guild) : NONE;
            if (sort == SORT_BESIDE && whom == NONE) {
                return false;
            }
            cells[at + SORT] = sort;
            cells[at + GUILD] = guild;
            cells[at + BESIDE_WHOM] = whom;
            return readReach(at);
        }

        private boolean readReach(int at) {
            cells[at + VERB] = NONE;
            cells[at + STUFF] = NONE;
            cells[at + LEAST] = 0;
            cells[at + GREATEST] = DEPTHS - 1;
            if (takeWord("all")) {
                return true;
            }
            int begun = start;
            return readPart("do", at + VERB, 0, VERBS - 1)
                && readPart("of", at + STUFF, 0, STUFFS - 1)
                && readPart("from", at + LEAST, 0, DEPTHS - 1)
                && readPart("to", at + GREATEST, cells[at + LEAST], DEPTHS - 1)
                && start != begun;
        }

        /** False only if the word stands here and the number behind it is not as it must be. */
        private boolean readPart(String word, int cell, int least, int greatest) {
            if (!takeWord(word)) {
                return true;
            }
            int number = takeNumber(least, greatest, NONE);
            if (number == NONE) {
                return false;
            }
            cells[cell] = number;
            return true;
        }

        private int takeSort() {
            if (takeWord("may")) {
                return SORT_MAY;
            }
            if (takeWord("not")) {
                return SORT_NOT;
            }
            if (takeWord("only")) {
                return SORT_ONLY;
            }
            return takeWord("beside") ? SORT_BESIDE : NONE;
        }

        private boolean takeWord(String word) {
            if (kind != WORD || end - start != word.length()) {
                return false;
            }
            for (int i = 0; i < word.length(); i++) {
                if (text.bytes[start + i] != word.charAt(i)) {
                    return false;
                }
            }
            nextToken();
            return true;
        }

        private boolean takeSemicolon() {
            if (kind != OTHER || text.bytes[start] != ';') {
                return false;
            }
            nextToken();
            return true;
        }

        private int takeNumber(int least, int greatest, int unlike) {
            if (kind != NUMBER || end - start != 1) {
                return NONE;
            }
            int number = text.bytes[start] - '0';
            if (isOff(number, least, greatest) || number == unlike) {
                return NONE;
            }
            nextToken();
            return number;
        }

        private void nextToken() {
            start = end;
            while (start < text.size && text.bytes[start] == ' ') {
                start++;
            }
            kind = kindAt(start);
            end = kind == END ? start : start + 1;
            if (kind == WORD || kind == NUMBER) {
                while (end < text.size && kindAt(end) == kind) {
                    end++;
                }
            }
        }

        private int kindAt(int place) {
            if (place >= text.size) {
                return END;
            }
            int sign = text.bytes[place];
            if (sign >= 'a' && sign <= 'z') {
                return WORD;
            }
            return sign >= '0' && sign <= '9' ? NUMBER : OTHER;
        }
    }

    /** The bounds, and who may what by them. A set of bounds is an int, bit b standing for bound b. */
    private static final class Law {
        private final int[] cells = new int[BOUNDS * CELLS];
        int size;

        /** For each work the bounds that it is within. */
        private final int[] within = new int[WORKS];

        /** For each guild: its grants, its onlys, those of the others, and its bounds but the grants. */
        private final int[] grants = new int[GUILDS];
        private final int[] onlys = new int[GUILDS];
        private final int[] foreignOnlys = new int[GUILDS];
        private final int[] plain = new int[GUILDS];

        int cell(int bound, int what) {
            return cells[bound * CELLS + what];
        }

        void enact(int[] lineCells, int lines) {
            System.arraycopy(lineCells, 0, cells, size * CELLS, lines * CELLS);
            for (int i = 0; i < lines; i++) {
                enter(size);
                size++;
            }
        }

        private void enter(int bound) {
            int bit = 1 << bound;
            int sort = cell(bound, SORT);
            int guild = cell(bound, GUILD);
            if (sort == SORT_GRANT) {
                grants[guild] |= bit;
            } else {
                plain[guild] |= bit;
            }
            if (sort == SORT_ONLY) {
                for (int g = 0; g < GUILDS; g++) {
                    if (g == guild) {
                        onlys[g] |= bit;
                    } else {
                        foreignOnlys[g] |= bit;
                    }
                }
            }
            for (int work = 0; work < WORKS; work++) {
                if (reaches(bound, work)) {
                    within[work] |= bit;
                }
            }
        }

        private boolean reaches(int bound, int work) {
            int verb = cell(bound, VERB);
            int stuff = cell(bound, STUFF);
            return (verb == NONE || verb == work / WORKS_OF_VERB)
                && (stuff == NONE || stuff == work / WORKS_OF_STUFF % STUFFS)
                && !isOff(work % DEPTHS, cell(bound, LEAST), cell(bound, GREATEST));
        }

        void strikeOut(int bound) {
            size--;
            System.arraycopy(cells, (bound + 1) * CELLS, cells, bound * CELLS, (size - bound) * CELLS);
            closeGap(within, bound);
            closeGap(grants, bound);
            closeGap(onlys, bound);
            closeGap(foreignOnlys, bound);
            closeGap(plain, bound);
        }

        private static void closeGap(int[] sets, int bound) {
            int ahead = (1 << bound) - 1;
            for (int i = 0; i < sets.length; i++) {
                sets[i] = sets[i] & ahead | sets[i] >>> 1 & ~ahead;
            }
        }

        int boundsAroundWork(int work) {
            return within[work];
        }

        /** Which bound decides, if only those of a set count; NONE. */
        int deciding(int guild, int work, int counting) {
            int here = within[work] & counting;
            int granted = here & grants[guild];
            if (granted != 0) {
                return Integer.numberOfTrailingZeros(granted);
            }
            int foreign = here & foreignOnlys[guild];
            if (foreign != 0 && (here & onlys[guild]) == 0) {
                return Integer.numberOfTrailingZeros(foreign);
            }
            int own = here & plain[guild];
            return own == 0 ? NONE : 31 - Integer.numberOfLeadingZeros(own);
        }

        int leave(int guild, int work, int counting) {
            int bound = deciding(guild, work, counting);
            // the bound of another guild is an only of it, which shuts this one out
            if (bound == NONE || cell(bound, GUILD) != guild) {
                return MAY_NOT;
            }
            switch (cell(bound, SORT)) {
                case SORT_NOT: return MAY_NOT;
                case SORT_BESIDE: return BESIDE + cell(bound, BESIDE_WHOM);
                default: return MAY;
            }
        }

        /** The guilds that a guild's work takes: itself, and the one beside whom it may; 0 if it may not. */
        int handsFor(int guild, int work) {
            int leave = leave(guild, work, ALL_BOUNDS);
            if (leave == MAY_NOT) {
                return 0;
            }
            return leave == MAY ? 1 << guild : 1 << guild | 1 << leave - BESIDE;
        }

        int guildsThatMay(int work) {
            int found = 0;
            for (int guild = 0; guild < GUILDS; guild++) {
                if (leave(guild, work, ALL_BOUNDS) != MAY_NOT) {
                    found |= 1 << guild;
                }
            }
            return found;
        }

        boolean isOfKind(int work, int what) {
            switch (what) {
                case FREE: return guildsThatMay(work) == 0;
                case SHARED: return Integer.bitCount(guildsThatMay(work)) >= 2;
                default: return isClaimed(work);
            }
        }

        private boolean isClaimed(int work) {
            int claiming = 0;
            for (int guild = 0; guild < GUILDS; guild++) {
                if ((within[work] & onlys[guild]) != 0) {
                    claiming++;
                }
            }
            return claiming >= 2;
        }

        /** How many works a guild may by the bounds of one set that it may not by those of another. */
        int countLost(int guild, int by, int notBy) {
            int found = 0;
            for (int work = 0; work < WORKS; work++) {
                if (leave(guild, work, by) != MAY_NOT && leave(guild, work, notBy) == MAY_NOT) {
                    found++;
                }
            }
            return found;
        }

        boolean isIdle(int bound) {
            int without = ~(1 << bound);
            for (int work = 0; work < WORKS; work++) {
                if ((within[work] & ~without) != 0 && isChanged(work, without)) {
                    return false;
                }
            }
            return true;
        }

        private boolean isChanged(int work, int counting) {
            for (int guild = 0; guild < GUILDS; guild++) {
                if (leave(guild, work, ALL_BOUNDS) != leave(guild, work, counting)) {
                    return true;
                }
            }
            return false;
        }
    }

    /** What the guilds ask for their works, and what carrying between them asks. */
    private static final class Tariff {
        final int[] prices = new int[GUILDS * VERBS];
        final int[] daysOfGuilds = new int[GUILDS];
        int carryPrice;

        Tariff() {
            Arrays.fill(prices, 1);
            Arrays.fill(daysOfGuilds, 1);
        }

        /** What 0: in money; 1: in days. */
        int ofWork(int guild, int work, int what) {
            return what == COST ? prices[guild * VERBS + work / WORKS_OF_VERB] : daysOfGuilds[guild];
        }

        int ofCarrying(int what) {
            return what == COST ? carryPrice : 1;
        }
    }

    /** The steps of a thing. */
    private static final class Thing {
        /** The work of step s by choice c stands at CHOICES s + c; NONE where there is no other one. */
        private final int[] works = new int[STEPS * CHOICES];
        int size;

        void addStep(int work, int other) {
            works[size * CHOICES] = work;
            works[size * CHOICES + 1] = other;
            size++;
        }

        int workAt(int step, int choice) {
            return works[step * CHOICES + choice];
        }
    }

    /** The ways of making things. */
    private static final class Maker {
        private final Law law;
        private final Tariff tariff;

        /** At GUILDS s + g: the least that the steps from s on ask, if step s is by guild g. */
        private final int[] onward = new int[(STEPS + 1) * GUILDS];

        Maker(Law law, Tariff tariff) {
            this.law = law;
            this.tariff = tariff;
        }

        // a way told by hand

        private static int guildTold(int guilds, int step) {
            return guilds >> 3 * step & 7;
        }

        private static int workTold(Thing thing, int choices, int step) {
            return thing.workAt(step, choices >> step & 1);
        }

        int firstWrongStep(Thing thing, int guilds, int choices) {
            for (int step = 0; step < thing.size; step++) {
                int guild = guildTold(guilds, step);
                int work = workTold(thing, choices, step);
                if (guild >= GUILDS || work == NONE || law.handsFor(guild, work) == 0) {
                    return step;
                }
            }
            return NONE;
        }

        int costOfWay(Thing thing, int guilds, int choices, int what) {
            int sum = 0;
            for (int step = 0; step < thing.size; step++) {
                int guild = guildTold(guilds, step);
                sum += tariff.ofWork(guild, workTold(thing, choices, step), what);
                if (step > 0 && guild != guildTold(guilds, step - 1)) {
                    sum += tariff.ofCarrying(what);
                }
            }
            return sum;
        }

        int handsOfWay(Thing thing, int guilds, int choices) {
            int hands = 0;
            for (int step = 0; step < thing.size; step++) {
                hands |= law.handsFor(guildTold(guilds, step), workTold(thing, choices, step));
            }
            return hands;
        }

        // which sets can make a thing

        /** The sets that can do a work, if only some bounds count; none for no work. */
        private long setsForWork(int work, int counting) {
            long sets = 0;
            if (work == NONE) {
                return sets;
            }
            for (int guild = 0; guild < GUILDS; guild++) {
                int leave = law.leave(guild, work, counting);
                if (leave == MAY) {
                    sets |= HOLDING[guild];
                } else if (leave != MAY_NOT) {
                    sets |= HOLDING[guild] & HOLDING[leave - BESIDE];
                }
            }
            return sets;
        }

        /** Those sets of a family that can make a thing but for one step (NONE: whole). */
        private long setsForThing(Thing thing, int left, int counting, long family) {
            long sets = family;
            for (int step = 0; step < thing.size && sets != 0; step++) {
                if (step != left) {
                    sets &= setsForWork(thing.workAt(step, 0), counting) | setsForWork(thing.workAt(step, 1), counting);
                }
            }
            return sets;
        }

        long makers(Thing thing) {
            return setsForThing(thing, NONE, ALL_BOUNDS, ALL_SETS);
        }

        boolean isMadeBy(Thing thing, int set) {
            return (makers(thing) >>> set & 1) != 0;
        }

        /** The set of the fewest guilds, of these the least number; NONE. */
        static int leastSet(long sets) {
            int least = NONE;
            for (int set = 0; set < SETS; set++) {
                boolean fewer = least == NONE || Integer.bitCount(set) < Integer.bitCount(least);
                if (fewer && (sets >>> set & 1) != 0) {
                    least = set;
                }
            }
            return least;
        }

        /** How many guilds the least set has; more than there are, if there is none. */
        private static int leastCount(long sets) {
            int set = leastSet(sets);
            return set == NONE ? GUILDS + 1 : Integer.bitCount(set);
        }

        private static long setsUpTo(int n) {
            long sets = 0;
            for (int set = 0; set < SETS; set++) {
                if (Integer.bitCount(set) <= n) {
                    sets |= 1L << set;
                }
            }
            return sets;
        }

        // the cheapest and the soonest way

        /** What the best way of a set asks, leaving what it asks onward from each step; NEVER. */
        int reckon(Thing thing, int set, int what) {
            int carrying = tariff.ofCarrying(what);
            Arrays.fill(onward, 0);
            int least = 0;
            for (int step = thing.size - 1; step >= 0; step--) {
                int leastHere = NEVER;
                for (int guild = 0; guild < GUILDS; guild++) {
                    int at = step * GUILDS + guild;
                    // least may be this guild's own, but then staying asks no more than carrying
                    int behind = Math.min(onward[at + GUILDS], least + carrying);
                    onward[at] = Math.min(NEVER, costOfStep(thing, step, guild, set, what) + behind);
                    leastHere = Math.min(leastHere, onward[at]);
                }
                least = leastHere;
            }
            return least;
        }

        private int costOfStep(Thing thing, int step, int guild, int set, int what) {
            return Math.min(
                costOfWork(thing.workAt(step, 0), guild, set, what),
                costOfWork(thing.workAt(step, 1), guild, set, what));
        }

        private int costOfWork(int work, int guild, int set, int what) {
            int hands = work == NONE ? 0 : law.handsFor(guild, work);
            return hands == 0 || (hands & ~set) != 0 ? NEVER : tariff.ofWork(guild, work, what);
        }

        /** Whose step i is in the first of the cheapest ways of a set, of which reckon has just told what it asks. */
        int cheapestGuild(Thing thing, int set, int i, int least) {
            int due = least;
            int guild = NONE;
            for (int step = 0; step <= i; step++) {
                guild = firstGuildAt(step, guild, due);
                if (guild == NONE) {
                    return NONE;
                }
                due = onward[step * GUILDS + guild] - costOfStep(thing, step, guild, set, COST);
            }
            return guild;
        }

        /** The first guild by which the steps from one on ask what is due, the one ahead being by another. */
        private int firstGuildAt(int step, int ahead, int due) {
            for (int guild = 0; guild < GUILDS; guild++) {
                int carrying = ahead == NONE || ahead == guild ? 0 : tariff.carryPrice;
                if (onward[step * GUILDS + guild] + carrying == due) {
                    return guild;
                }
            }
            return NONE;
        }

        /** The choice of a step never bears on the other steps, so that the cheaper one is in every cheapest way. */
        int cheapestChoice(Thing thing, int set, int step, int guild) {
            int first = costOfWork(thing.workAt(step, 0), guild, set, COST);
            int second = costOfWork(thing.workAt(step, 1), guild, set, COST);
            return second < first ? 1 : 0;
        }

        // what would need fewer

        /** SLY_CODES times how many guilds are needed then, and the code of the change; NONE. */
        int slyest(Thing thing, int n) {
            int none = leastCount(makers(thing)) * SLY_CODES;
            int least = none;
            for (int step = 0; step < thing.size; step++) {
                long others = setsForThing(thing, step, ALL_BOUNDS, ALL_SETS);
                for (int choice = 0; choice < CHOICES; choice++) {
                    least = Math.min(least, slyestDepth(thing, step, choice, n, others));
                }
            }
            return least == none ? NONE : least;
        }

        private int slyestDepth(Thing thing, int step, int choice, int n, long others) {
            int least = NEVER;
            int work = thing.workAt(step, choice);
            if (work == NONE) {
                return least;
            }
            long byOther = setsForWork(thing.workAt(step, 1 - choice), ALL_BOUNDS);
            int code = (step * CHOICES + choice) * DEPTHS;
            for (int depth = 0; depth < DEPTHS; depth++) {
                int off = Math.abs(depth - work % DEPTHS);
                if (off >= 1 && off <= n) {
                    long byChanged = setsForWork(work - work % DEPTHS + depth, ALL_BOUNDS);
                    int needed = leastCount(others & (byOther | byChanged));
                    least = Math.min(least, needed * SLY_CODES + code + depth);
                }
            }
            return least;
        }

        int fewestStruck(Thing thing, int n) {
            int strikable = Math.min(law.size, STRIKABLE);
            int untouching = ~boundsAround(thing);
            long family = setsUpTo(n);
            for (int many = 0; many <= strikable; many++) {
                for (int out = 0; out < 1 << strikable; out++) {
                    // what no work of the thing is within is never among the fewest
                    if (Integer.bitCount(out) == many && (out & untouching) == 0
                        && setsForThing(thing, NONE, ~out, family) != 0) {
                        return out;
                    }
                }
            }
            return NONE;
        }

        /** The bounds that some work of a thing is within. */
        private int boundsAround(Thing thing) {
            int around = 0;
            for (int step = 0; step < thing.size; step++) {
                int other = thing.workAt(step, 1);
                around |= law.boundsAroundWork(thing.workAt(step, 0));
                around |= other == NONE ? 0 : law.boundsAroundWork(other);
            }
            return around;
        }
    }

    /** The seizures of the past. */
    private static final class Seizures {
        private final int[] guilds = new int[SEIZURES];
        private final int[] works = new int[SEIZURES];
        private final int[] boundsThen = new int[SEIZURES];
        int size;

        void addSeizure(int guild, int work, int n) {
            guilds[size] = guild;
            works[size] = work;
            boundsThen[size] = n;
            size++;
        }

        boolean isRight(int i, Law law) {
            return law.leave(guilds[i], works[i], (1 << boundsThen[i]) - 1) == MAY_NOT;
        }

        int firstWrong(Law law) {
            for (int i = 0; i < size; i++) {
                if (!isRight(i, law)) {
                    return i;
                }
            }
            return NONE;
        }
    }
}
