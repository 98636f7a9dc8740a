import java.util.ArrayList;
import java.util.List;
import java.util.Random;
import java.util.TreeMap;

/**
 * Long runs of calls, each answered by the class and by a slow model that follows the document's words:
 * every way is gone through, every set, every choice of bounds. The runs are always the same ones.
 */
public final class PlainModelTest {
    private static final int NONE = -1, UNKNOWN = -2, OUTSIDE = -3, NOT = -4, FULL = -5;
    private static final int RUNS = 600, CALLS = 512;

    /** More of them than these the model does not go through. */
    private static final int MOST_WAYS = 5000;

    private static int wrong = 0;

    public static void main(String[] args) {
        TreeMap<String, Integer> answered = new TreeMap<>();
        for (int run = 0; run < RUNS && wrong < 20; run++) {
            new Run(run, answered).go();
        }
        System.out.println(answered);
        System.out.println(wrong == 0 ? "all answers are as due" : wrong + " answers are not as due");
        if (wrong != 0) {
            System.exit(1);
        }
    }

    /** One object and one model, told the same. */
    private static final class Run {
        private final int number;
        private final Random random;
        private final WhoseWork x = new WhoseWork();
        private final Model model = new Model();
        private final TreeMap<String, Integer> answered;
        private final int mostSteps;
        private int calls = 0;

        Run(int number, TreeMap<String, Integer> answered) {
            this.number = number;
            this.answered = answered;
            random = new Random(number);
            mostSteps = 1 + random.nextInt(8);
        }

        private void due(String call, int got, int want) {
            calls++;
            String name = call.substring(0, call.indexOf('('));
            answered.merge(name + (want < 0 ? want : want > 0 ? "+" : "0"), 1, Integer::sum);
            if (got != want) {
                wrong++;
                System.out.println("run " + number + ", call " + calls + ": " + call + " answered " + got + ", due is " + want);
            }
        }

        void go() {
            tellText();
            tellText();
            while (calls < CALLS && wrong < 20) {
                int kind = random.nextInt(100);
                if (kind < 3) {
                    tellText();
                } else if (kind < 30) {
                    askBounds();
                } else if (kind < 55) {
                    changeThings();
                } else if (kind < 92) {
                    askThings();
                } else {
                    seizuresAndYear();
                }
            }
        }

        /** Mostly within 0 .. below - 1, now and then a little off. */
        private int number(int below) {
            return random.nextInt(25) == 0 ? random.nextInt(below + 4) - 2 : random.nextInt(Math.max(1, below));
        }

        private void tellText() {
            String text = random.nextInt(3) == 0 ? brokenText() : wholeText();
            for (int from = 0; from < text.length(); ) {
                int n = Math.min(random.nextInt(4) == 0 ? 1 + random.nextInt(8) : 8, text.length() - from);
                long bytes = 0;
                for (int i = 0; i < 8; i++) {
                    long sign = i < n ? text.charAt(from + i) : random.nextInt(256);
                    bytes |= sign << 8 * i;
                }
                due("write(" + bytes + ", " + n + ")", x.write(bytes, n), model.write(bytes, n));
                from += n;
            }
            int off = number(8) + 1;
            if (off > 8 || off < 1) {
                due("write(0, " + off + ")", x.write(0, off), model.write(0, off));
            }
            due("fault() of " + model.text, x.fault(), model.fault());
            due("bounds() of " + model.text, x.bounds(), model.bounds());
            if (model.text.length() > 0 && random.nextInt(4) > 0) {
                due("erase()", x.erase(), model.erase());
            }
        }

        private String wholeText() {
            StringBuilder text = new StringBuilder();
            int lines = 1 + random.nextInt(random.nextInt(6) == 0 ? 9 : 4);
            for (int i = 0; i < lines; i++) {
                text.append(i > 0 ? ";" : "").append(line());
            }
            return text.toString();
        }

        private String line() {
            int guild = random.nextInt(random.nextBoolean() ? 6 : 3);
            if (random.nextInt(7) == 0) {
                return "grant " + guild + " " + reach();
            }
            switch (random.nextInt(7)) {
                case 0: return "guild " + guild + " not " + reach();
                case 1: return "guild " + guild + " only " + reach();
                case 2: return "guild " + guild + " beside " + (guild + 1 + random.nextInt(5)) % 6 + " " + reach();
                default: return "guild " + guild + " may " + reach();
            }
        }

        private String reach() {
            StringBuilder reach = new StringBuilder();
            if (random.nextInt(3) > 0) {
                reach.append(" do ").append(random.nextInt(random.nextBoolean() ? 6 : 2));
            }
            if (random.nextInt(3) == 0) {
                reach.append(" of ").append(random.nextInt(random.nextBoolean() ? 4 : 2));
            }
            int from = random.nextInt(10);
            if (random.nextInt(3) == 0) {
                reach.append(" from ").append(from);
            } else {
                from = 0;
            }
            if (random.nextInt(3) == 0) {
                reach.append(" to ").append(from + random.nextInt(10 - from));
            }
            return reach.length() == 0 ? "all" : reach.substring(1);
        }

        private String brokenText() {
            StringBuilder text = new StringBuilder(wholeText());
            int changes = 1 + random.nextInt(2);
            String[] pieces = {"guild", "grant", "may", "not", "only", "beside", "all", "do", "of", "from", "to", ";", " ",
                "  ", "0", "1", "3", "4", "5", "6", "9", "12", "x", ".", "A", "\u00e4", "\u0000", "\t"};
            for (int i = 0; i < changes; i++) {
                int at = random.nextInt(text.length() + 1);
                switch (random.nextInt(4)) {
                    case 0:
                        text.setLength(at);
                        break;
                    case 1:
                        text.delete(at, Math.min(text.length(), at + 1 + random.nextInt(3)));
                        break;
                    default:
                        text.insert(at, pieces[random.nextInt(pieces.length)]);
                        break;
                }
            }
            return text.toString();
        }

        private void askBounds() {
            int guild = number(6);
            int work = number(240);
            int bound = number(model.bounds.size());
            int what = number(7);
            switch (random.nextInt(9)) {
                case 0:
                    if (random.nextInt(3) == 0) {
                        due("strike(" + bound + ")", x.strike(bound), model.strike(bound));
                    }
                    break;
                case 1:
                    due("bound(" + bound + ", " + what + ")", x.bound(bound, what), model.bound(bound, what));
                    break;
                case 2:
                    due("why(" + guild + ", " + work + ")", x.why(guild, work), model.why(guild, work));
                    break;
                case 3:
                    due("who(" + work + ")", x.who(work), model.who(work));
                    break;
                case 4:
                    int kind = number(3);
                    int i = random.nextInt(4) == 0 ? random.nextInt(244) - 3 : random.nextInt(10) - 1;
                    due("works(" + kind + ", " + i + ")", x.works(kind, i), model.works(kind, i));
                    break;
                case 5:
                    int side = number(2);
                    due("takes(" + bound + ", " + guild + ", " + side + ")", x.takes(bound, guild, side), model.takes(bound, guild, side));
                    break;
                case 6:
                    due("idle()", x.idle(), model.idle());
                    break;
                default:
                    due("may(" + guild + ", " + work + ")", x.may(guild, work), model.may(guild, work));
                    break;
            }
        }

        private void changeThings() {
            int thing = number(6);
            int guild = number(6);
            switch (random.nextInt(14)) {
                case 0:
                    due("clear(" + thing + ")", x.clear(thing), model.clear(thing));
                    break;
                case 1:
                    int v = 1 + number(9);
                    due("days(" + guild + ", " + v + ")", x.days(guild, v), model.days(guild, v));
                    break;
                case 2:
                    int c = random.nextBoolean() ? number(100) : number(4);
                    due("carry(" + c + ")", x.carry(c), model.carry(c));
                    break;
                case 3:
                case 4:
                case 5:
                    int verb = number(6);
                    int p = random.nextBoolean() ? number(100) : number(4);
                    due("price(" + guild + ", " + verb + ", " + p + ")", x.price(guild, verb, p), model.price(guild, verb, p));
                    break;
                default:
                    addStep(thing);
                    break;
            }
        }

        private void addStep(int thing) {
            int work = number(random.nextBoolean() ? 240 : random.nextBoolean() ? 80 : 20);
            int other = random.nextBoolean() ? NONE : number(240);
            if (thing < 0 || thing > 5 || model.things.get(thing).size() < mostSteps || random.nextInt(9) == 0) {
                due("step(" + thing + ", " + work + ", " + other + ")", x.step(thing, work, other), model.step(thing, work, other));
            }
        }

        private void askThings() {
            int thing = number(6);
            int set = random.nextInt(3) == 0 ? 63 : number(64);
            int what = number(2);
            int guilds = random.nextInt();
            int choices = random.nextInt() & random.nextInt() & random.nextInt();
            switch (random.nextInt(10)) {
                case 0:
                    int any = number(6);
                    due("judge(" + any + ", " + guilds + ", " + choices + ")", x.judge(any, guilds, choices), model.judge(any, guilds, choices));
                    break;
                case 1:
                case 2:
                    int told = thing < 0 || thing > 5 ? guilds : model.someWay(thing, random);
                    int asked = number(3);
                    due("told(" + thing + ", " + (told & 0xFFFFFF) + ", " + (told >> 24) + ", " + asked + ")",
                        x.told(thing, told & 0xFFFFFF, told >> 24, asked), model.told(thing, told & 0xFFFFFF, told >> 24, asked));
                    break;
                case 3:
                    due("can(" + thing + ", " + set + ")", x.can(thing, set), model.can(thing, set));
                    break;
                case 4:
                    due("fewest(" + thing + ", " + what + ")", x.fewest(thing, what), model.fewest(thing, what));
                    break;
                case 5:
                    if (model.manyWays(thing) > MOST_WAYS) {
                        break;
                    }
                    due("best(" + thing + ", " + set + ", " + what + ")", x.best(thing, set, what), model.best(thing, set, what));
                    break;
                case 6:
                    if (model.manyWays(thing) > MOST_WAYS) {
                        break;
                    }
                    int i = number(mostSteps);
                    due("way(" + thing + ", " + set + ", " + i + ", " + what + ")", x.way(thing, set, i, what), model.way(thing, set, i, what));
                    break;
                case 7:
                    int guild = number(6);
                    due("alone(" + guild + ")", x.alone(guild), model.alone(guild));
                    break;
                case 8:
                    int n = 1 + number(9);
                    due("sly(" + thing + ", " + n + ", " + what + ")", x.sly(thing, n, what), model.sly(thing, n, what));
                    break;
                default:
                    int most = random.nextBoolean() ? 1 : number(7);
                    due("struck(" + thing + ", " + most + ")", x.struck(thing, most), model.struck(thing, most));
                    break;
            }
        }

        private void seizuresAndYear() {
            int guild = number(6);
            int work = number(240);
            switch (random.nextInt(5)) {
                case 0:
                    int n = number(model.bounds.size() + 1);
                    due("seize(" + guild + ", " + work + ", " + n + ")", x.seize(guild, work, n), model.seize(guild, work, n));
                    break;
                case 1:
                    int i = random.nextInt(20) - 2;
                    due("right(" + i + ")", x.right(i), model.right(i));
                    break;
                case 2:
                    due("year(" + work + ")", x.year(work), model.year(work));
                    break;
                case 3:
                    due("yearly(" + guild + ")", x.yearly(guild), model.yearly(guild));
                    break;
                default:
                    int what = number(10);
                    due("count(" + what + ")", x.count(what), model.count(what));
                    break;
            }
        }
    }

    /** What the document says, word for word, without a thought of speed. */
    private static final class Model {
        final StringBuilder text = new StringBuilder();
        final List<int[]> bounds = new ArrayList<>();
        final List<List<int[]>> things = new ArrayList<>();
        private final int[][] prices = new int[6][6];
        private final int[] dayRow = {1, 1, 1, 1, 1, 1};
        private int carrying = 0;
        private final List<int[]> seizures = new ArrayList<>();
        private final List<Integer> yearRow = new ArrayList<>();
        private final List<int[]> linesRead = new ArrayList<>();

        Model() {
            for (int i = 0; i < 6; i++) {
                things.add(new ArrayList<>());
                java.util.Arrays.fill(prices[i], 1);
            }
        }

        private static boolean in(int number, int least, int most) {
            return least <= number && number <= most;
        }

        // ---- bounds

        int write(long bytes, int n) {
            if (!in(n, 1, 8)) {
                return OUTSIDE;
            }
            if (text.length() + n > 160) {
                return FULL;
            }
            for (int i = 0; i < n; i++) {
                text.append((char) (bytes >> 8 * i & 255));
            }
            return text.length();
        }

        int erase() {
            int had = text.length();
            text.setLength(0);
            return had;
        }

        private List<int[]> tokens() {
            List<int[]> tokens = new ArrayList<>();
            java.util.regex.Matcher m = java.util.regex.Pattern.compile("[a-z]+|[0-9]+|[^ ]", java.util.regex.Pattern.DOTALL).matcher(text);
            while (m.find()) {
                tokens.add(new int[] {m.start(), m.end()});
            }
            return tokens;
        }

        /** A row of states; in each, what each token leads to. */
        int fault() {
            linesRead.clear();
            String state = "line";
            int[] line = null;
            for (int[] token : tokens()) {
                String word = text.substring(token[0], token[1]);
                int digit = word.matches("[0-9]") ? word.charAt(0) - '0' : -9;
                if (state.equals("line")) {
                    line = new int[] {0, 0, NONE, NONE, NONE, 0, 9};
                }
                state = next(state, word, digit, line);
                if (state == null) {
                    return token[0];
                }
                if (state.equals("line")) {
                    linesRead.add(line);
                    if (linesRead.size() == 8) {
                        return token[0];
                    }
                }
            }
            if (!state.matches("end|doDone|ofDone|fromDone")) {
                return text.length();
            }
            linesRead.add(line);
            return NONE;
        }

        private static String next(String state, String word, int digit, int[] line) {
            switch (state) {
                case "line":
                    return word.equals("guild") ? "guild" : word.equals("grant") ? "grant" : null;
                case "guild":
                case "grant":
                    line[0] = 4;
                    line[1] = digit;
                    return !in(digit, 0, 5) ? null : state.equals("guild") ? "sort" : "reach";
                case "sort":
                    line[0] = List.of("may", "not", "only", "beside").indexOf(word);
                    return line[0] < 0 ? null : line[0] == 3 ? "whom" : "reach";
                case "whom":
                    line[2] = digit;
                    return in(digit, 0, 5) && digit != line[1] ? "reach" : null;
                case "do":
                    line[3] = digit;
                    return in(digit, 0, 5) ? "doDone" : null;
                case "of":
                    line[4] = digit;
                    return in(digit, 0, 3) ? "ofDone" : null;
                case "from":
                    line[5] = digit;
                    return in(digit, 0, 9) ? "fromDone" : null;
                case "to":
                    line[6] = digit;
                    return in(digit, line[5], 9) ? "end" : null;
                default:
                    return part(state, word);
            }
        }

        private static String part(String state, String word) {
            List<String> order = List.of("reach", "doDone", "ofDone", "fromDone", "end");
            int done = order.indexOf(state);
            int part = List.of("do", "of", "from", "to").indexOf(word);
            if (part >= done) {
                return word;
            }
            if (done == 0) {
                return word.equals("all") ? "end" : null;
            }
            return word.equals(";") ? "line" : null;
        }

        int bounds() {
            if (fault() != NONE) {
                return NOT;
            }
            if (bounds.size() + linesRead.size() > 20) {
                return FULL;
            }
            bounds.addAll(linesRead);
            text.setLength(0);
            return bounds.size();
        }

        int strike(int bound) {
            if (!in(bound, 0, bounds.size() - 1)) {
                return UNKNOWN;
            }
            bounds.remove(bound);
            return bounds.size();
        }

        int bound(int bound, int what) {
            return !in(bound, 0, bounds.size() - 1) ? UNKNOWN : !in(what, 0, 6) ? OUTSIDE : bounds.get(bound)[what];
        }

        private static boolean within(int work, int[] b) {
            int verb = work / 40;
            int stuff = work % 40 / 10;
            return (b[3] == NONE || b[3] == verb) && (b[4] == NONE || b[4] == stuff) && in(work % 10, b[5], b[6]);
        }

        private static int decides(List<int[]> by, int guild, int work) {
            int otherOnly = NONE;
            int ownOnly = NONE;
            int lastOwn = NONE;
            for (int i = 0; i < by.size(); i++) {
                int[] b = by.get(i);
                if (!within(work, b)) {
                    continue;
                }
                if (b[0] == 4) {
                    if (b[1] == guild) {
                        return i;
                    }
                } else if (b[1] == guild) {
                    lastOwn = i;
                    ownOnly = b[0] == 2 ? i : ownOnly;
                } else if (b[0] == 2 && otherOnly == NONE) {
                    otherOnly = i;
                }
            }
            return otherOnly != NONE && ownOnly == NONE ? otherOnly : lastOwn;
        }

        private static int mayBy(List<int[]> by, int guild, int work) {
            int decides = decides(by, guild, work);
            if (decides == NONE) {
                return 0;
            }
            int[] b = by.get(decides);
            return b[1] != guild || b[0] == 1 ? 0 : b[0] == 3 ? 2 + b[2] : 1;
        }

        int may(int guild, int work) {
            return !in(guild, 0, 5) || !in(work, 0, 239) ? UNKNOWN : mayBy(bounds, guild, work);
        }

        int why(int guild, int work) {
            return !in(guild, 0, 5) || !in(work, 0, 239) ? UNKNOWN : decides(bounds, guild, work);
        }

        int who(int work) {
            if (!in(work, 0, 239)) {
                return UNKNOWN;
            }
            int set = 0;
            for (int guild = 0; guild < 6; guild++) {
                set += mayBy(bounds, guild, work) != 0 ? 1 << guild : 0;
            }
            return set;
        }

        int works(int what, int i) {
            if (!in(what, 0, 2) || i < -1) {
                return OUTSIDE;
            }
            List<Integer> found = new ArrayList<>();
            for (int work = 0; work < 240; work++) {
                int many = Integer.bitCount(who(work));
                java.util.Set<Integer> claiming = new java.util.TreeSet<>();
                for (int[] b : bounds) {
                    if (b[0] == 2 && within(work, b)) {
                        claiming.add(b[1]);
                    }
                }
                if (what == 0 ? many == 0 : what == 1 ? many > 1 : claiming.size() > 1) {
                    found.add(work);
                }
            }
            return i == -1 ? found.size() : i < found.size() ? found.get(i) : NONE;
        }

        // ---- things

        int step(int thing, int work, int other) {
            if (!in(thing, 0, 5) || !in(work, 0, 239) || !in(other, -1, 239)) {
                return UNKNOWN;
            }
            if (things.get(thing).size() >= 8) {
                return FULL;
            }
            things.get(thing).add(new int[] {work, other});
            return things.get(thing).size();
        }

        int clear(int thing) {
            if (!in(thing, 0, 5)) {
                return UNKNOWN;
            }
            int had = things.get(thing).size();
            things.get(thing).clear();
            return had;
        }

        int price(int guild, int verb, int v) {
            if (!in(guild, 0, 5)) {
                return UNKNOWN;
            }
            if (!in(verb, 0, 5) || !in(v, 0, 99)) {
                return OUTSIDE;
            }
            int was = prices[guild][verb];
            prices[guild][verb] = v;
            return was;
        }

        int days(int guild, int v) {
            if (!in(guild, 0, 5)) {
                return UNKNOWN;
            }
            if (!in(v, 1, 9)) {
                return OUTSIDE;
            }
            int was = dayRow[guild];
            dayRow[guild] = v;
            return was;
        }

        int carry(int v) {
            if (!in(v, 0, 99)) {
                return OUTSIDE;
            }
            int was = carrying;
            carrying = v;
            return was;
        }

        int judge(int thing, int guilds, int choices) {
            if (!in(thing, 0, 5)) {
                return UNKNOWN;
            }
            List<int[]> steps = things.get(thing);
            for (int i = 0; i < steps.size(); i++) {
                int guild = guilds >> 3 * i & 7;
                int work = steps.get(i)[choices >> i & 1];
                if (guild > 5 || work == NONE || mayBy(bounds, guild, work) == 0) {
                    return i;
                }
            }
            return NONE;
        }

        int told(int thing, int guilds, int choices, int what) {
            if (!in(thing, 0, 5)) {
                return UNKNOWN;
            }
            if (!in(what, 0, 2)) {
                return OUTSIDE;
            }
            if (judge(thing, guilds, choices) != NONE) {
                return NOT;
            }
            int[] sums = new int[3];
            List<int[]> steps = things.get(thing);
            for (int i = 0; i < steps.size(); i++) {
                int guild = guilds >> 3 * i & 7;
                int work = steps.get(i)[choices >> i & 1];
                boolean carried = i > 0 && guild != (guilds >> 3 * (i - 1) & 7);
                int may = mayBy(bounds, guild, work);
                sums[0] += prices[guild][work / 40] + (carried ? carrying : 0);
                sums[1] += dayRow[guild] + (carried ? 1 : 0);
                sums[2] |= 1 << guild | (may >= 2 ? 1 << may - 2 : 0);
            }
            return sums[what];
        }

        /** Guilds, choices (24 bits on) that are mostly a way. */
        int someWay(int thing, Random random) {
            List<int[]> steps = things.get(thing);
            int told = 0;
            for (int i = 0; i < steps.size(); i++) {
                int guild = random.nextInt(6);
                int choice = random.nextInt(2);
                for (int tries = 0; tries < 40; tries++) {
                    int work = steps.get(i)[choice];
                    if (work != NONE && mayBy(bounds, guild, work) != 0) {
                        break;
                    }
                    guild = random.nextInt(6);
                    choice = random.nextInt(2);
                }
                told |= guild << 3 * i | choice << 24 + i;
            }
            return told;
        }

        /** Every way, as rows of guild, choice, guild, choice .., in the order of the document. */
        private List<int[]> ways(List<int[]> steps, List<int[]> by) {
            List<int[]> ways = new ArrayList<>();
            ways.add(new int[0]);
            for (int i = 0; i < steps.size(); i++) {
                List<int[]> longer = new ArrayList<>();
                for (int[] way : ways) {
                    for (int guild = 0; guild < 6; guild++) {
                        for (int choice = 0; choice < 2; choice++) {
                            int work = steps.get(i)[choice];
                            if (work != NONE && mayBy(by, guild, work) != 0) {
                                int[] more = java.util.Arrays.copyOf(way, 2 * i + 2);
                                more[2 * i] = guild;
                                more[2 * i + 1] = choice;
                                longer.add(more);
                            }
                        }
                    }
                }
                ways = longer;
            }
            return ways;
        }

        long manyWays(int thing) {
            long many = 1;
            if (in(thing, 0, 5)) {
                for (int[] step : things.get(thing)) {
                    many *= ways(List.of(step), bounds).size();
                }
            }
            return many;
        }

        private int hands(List<int[]> steps, List<int[]> by, int[] way) {
            int hands = 0;
            for (int i = 0; i < steps.size(); i++) {
                int may = mayBy(by, way[2 * i], steps.get(i)[way[2 * i + 1]]);
                hands |= 1 << way[2 * i] | (may >= 2 ? 1 << may - 2 : 0);
            }
            return hands;
        }

        private int asks(List<int[]> steps, int[] way, int what) {
            int sum = 0;
            for (int i = 0; i < steps.size(); i++) {
                int guild = way[2 * i];
                sum += what == 0 ? prices[guild][steps.get(i)[way[2 * i + 1]] / 40] : dayRow[guild];
                if (i > 0 && way[2 * i - 2] != guild) {
                    sum += what == 0 ? carrying : 1;
                }
            }
            return sum;
        }

        /** The hands of the ways, each once; step by step, as the ways themselves would be too many. */
        private java.util.Set<Integer> allHands(List<int[]> steps, List<int[]> by) {
            java.util.Set<Integer> all = new java.util.TreeSet<>();
            all.add(0);
            for (int[] step : steps) {
                java.util.Set<Integer> more = new java.util.TreeSet<>();
                for (int[] way : ways(List.of(step), by)) {
                    int hands = hands(List.of(step), by, way);
                    for (int ahead : all) {
                        more.add(ahead | hands);
                    }
                }
                all = more;
            }
            return all;
        }

        private int fewestOf(List<int[]> steps, List<int[]> by) {
            int least = NONE;
            for (int hands : allHands(steps, by)) {
                if (least == NONE || Integer.bitCount(hands) < Integer.bitCount(least)
                    || Integer.bitCount(hands) == Integer.bitCount(least) && hands < least) {
                    least = hands;
                }
            }
            return least;
        }

        int can(int thing, int set) {
            if (!in(thing, 0, 5)) {
                return UNKNOWN;
            }
            if (!in(set, 0, 63)) {
                return OUTSIDE;
            }
            for (int hands : allHands(things.get(thing), bounds)) {
                if ((hands & set) == hands) {
                    return 1;
                }
            }
            return 0;
        }

        int fewest(int thing, int what) {
            if (!in(thing, 0, 5)) {
                return UNKNOWN;
            }
            if (!in(what, 0, 1)) {
                return OUTSIDE;
            }
            int set = fewestOf(things.get(thing), bounds);
            return set == NONE ? NONE : what == 0 ? Integer.bitCount(set) : set;
        }

        private int[] bestWay(int thing, int set, int what) {
            List<int[]> steps = things.get(thing);
            int[] best = null;
            for (int[] way : ways(steps, bounds)) {
                boolean inSet = (hands(steps, bounds, way) | set) == set;
                if (inSet && (best == null || asks(steps, way, what) < asks(steps, best, what))) {
                    best = way;
                }
            }
            return best;
        }

        int best(int thing, int set, int what) {
            if (!in(thing, 0, 5)) {
                return UNKNOWN;
            }
            if (!in(set, 0, 63) || !in(what, 0, 1)) {
                return OUTSIDE;
            }
            int[] best = bestWay(thing, set, what);
            return best == null ? NONE : asks(things.get(thing), best, what);
        }

        int way(int thing, int set, int i, int what) {
            if (!in(thing, 0, 5)) {
                return UNKNOWN;
            }
            if (!in(set, 0, 63) || !in(what, 0, 1) || i < 0) {
                return OUTSIDE;
            }
            int[] best = bestWay(thing, set, 0);
            return best == null || 2 * i >= best.length ? NONE : best[2 * i + what];
        }

        int alone(int guild) {
            if (!in(guild, 0, 5)) {
                return UNKNOWN;
            }
            int made = 0;
            for (int thing = 0; thing < 6; thing++) {
                if (!things.get(thing).isEmpty() && can(thing, 1 << guild) == 1) {
                    made |= 1 << thing;
                }
            }
            return made;
        }

        int sly(int thing, int n, int what) {
            if (!in(thing, 0, 5)) {
                return UNKNOWN;
            }
            if (!in(n, 1, 9) || !in(what, 0, 1)) {
                return OUTSIDE;
            }
            List<int[]> steps = things.get(thing);
            int now = fewestOf(steps, bounds);
            int least = now == NONE ? 99 : Integer.bitCount(now);
            int answer = NONE;
            for (int i = 0; i < steps.size(); i++) {
                for (int choice = 0; choice < 2; choice++) {
                    for (int depth = 0; depth < 10; depth++) {
                        int[] step = steps.get(i);
                        int off = Math.abs(step[choice] % 10 - depth);
                        if (step[choice] == NONE || off == 0 || off > n) {
                            continue;
                        }
                        int[] changed = step.clone();
                        changed[choice] = step[choice] / 10 * 10 + depth;
                        List<int[]> then = new ArrayList<>(steps);
                        then.set(i, changed);
                        int set = fewestOf(then, bounds);
                        if (set != NONE && Integer.bitCount(set) < least) {
                            least = Integer.bitCount(set);
                            answer = 20 * i + 10 * choice + depth;
                        }
                    }
                }
            }
            return answer == NONE || what == 0 ? answer : least;
        }

        int struck(int thing, int n) {
            if (!in(thing, 0, 5)) {
                return UNKNOWN;
            }
            if (!in(n, 0, 6)) {
                return OUTSIDE;
            }
            int answer = NONE;
            for (int out = 0; out < 1 << Math.min(10, bounds.size()); out++) {
                if (answer != NONE && Integer.bitCount(out) >= Integer.bitCount(answer)) {
                    continue;
                }
                List<int[]> left = new ArrayList<>();
                for (int i = 0; i < bounds.size(); i++) {
                    if ((out >> i & 1) == 0) {
                        left.add(bounds.get(i));
                    }
                }
                int set = fewestOf(things.get(thing), left);
                if (set != NONE && Integer.bitCount(set) <= n) {
                    answer = out;
                }
            }
            return answer;
        }

        int takes(int bound, int guild, int what) {
            if (!in(bound, 0, bounds.size() - 1) || !in(guild, 0, 5)) {
                return UNKNOWN;
            }
            if (!in(what, 0, 1)) {
                return OUTSIDE;
            }
            List<int[]> left = new ArrayList<>(bounds);
            left.remove(bound);
            int taken = 0;
            int given = 0;
            for (int work = 0; work < 240; work++) {
                boolean now = mayBy(bounds, guild, work) != 0;
                boolean then = mayBy(left, guild, work) != 0;
                taken += now && !then ? 1 : 0;
                given += !now && then ? 1 : 0;
            }
            return what == 0 ? taken : given;
        }

        int idle() {
            int idle = 0;
            for (int i = 0; i < bounds.size(); i++) {
                List<int[]> left = new ArrayList<>(bounds);
                left.remove(i);
                boolean same = true;
                for (int work = 0; work < 240 && same; work++) {
                    for (int guild = 0; guild < 6; guild++) {
                        same &= mayBy(bounds, guild, work) == mayBy(left, guild, work);
                    }
                }
                idle |= same ? 1 << i : 0;
            }
            return idle;
        }

        // ---- seizures, a year

        int seize(int guild, int work, int n) {
            if (!in(guild, 0, 5) || !in(work, 0, 239)) {
                return UNKNOWN;
            }
            if (!in(n, 0, bounds.size())) {
                return OUTSIDE;
            }
            if (seizures.size() >= 16) {
                return FULL;
            }
            seizures.add(new int[] {guild, work, n});
            return seizures.size();
        }

        int right(int i) {
            if (!in(i, -1, seizures.size() - 1)) {
                return UNKNOWN;
            }
            if (i == -1) {
                for (int k = 0; k < seizures.size(); k++) {
                    if (right(k) == 0) {
                        return k;
                    }
                }
                return NONE;
            }
            int[] s = seizures.get(i);
            return mayBy(bounds.subList(0, Math.min(s[2], bounds.size())), s[0], s[1]) == 0 ? 1 : 0;
        }

        int year(int work) {
            if (!in(work, 0, 239)) {
                return UNKNOWN;
            }
            if (yearRow.size() >= 24) {
                return FULL;
            }
            yearRow.add(work);
            return yearRow.size();
        }

        int yearly(int guild) {
            if (!in(guild, 0, 5)) {
                return UNKNOWN;
            }
            int many = 0;
            for (int work : yearRow) {
                many += mayBy(bounds, guild, work) != 0 ? 1 : 0;
            }
            return many;
        }

        int count(int what) {
            if (!in(what, 0, 9)) {
                return OUTSIDE;
            }
            int[] four = {bounds.size(), text.length(), seizures.size(), yearRow.size()};
            return what < 4 ? four[what] : things.get(what - 4).size();
        }
    }
}
