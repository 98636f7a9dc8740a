import java.util.Random;

/** Calls with any numbers in any state: none throws, and a refused one changes nothing. */
public final class WildCallsTest {
    private static final int RUNS = 400, CALLS = 512;
    private static final int[] EDGES = {Integer.MIN_VALUE, Integer.MIN_VALUE + 1, -2, -1, 0, 1, 2, 5, 6, 7, 8, 9, 10, 15, 16,
        19, 20, 23, 24, 63, 64, 99, 100, 239, 240, 1 << 24, Integer.MAX_VALUE - 1, Integer.MAX_VALUE};
    private static final String[] PIECES = {"guild ", "grant ", "may ", "not ", "only ", "beside ", "all", "do ", "of ", "from ",
        "to ", ";", " ", "0 ", "1 ", "2 ", "5 ", "9 "};
    private static final String[] LINES = {"guild 0 may all", "guild 1 only do 1", "guild 2 beside 3 of 2", "grant 4 do 2 from 3",
        "guild 0 not do 0 to 4", "guild 5 may of 1"};

    private static int wrong = 0;

    public static void main(String[] args) {
        for (int run = 0; run < RUNS && wrong == 0; run++) {
            go(new Random(1000 + run), run);
        }
        System.out.println(wrong == 0 ? "no call threw, no refused one changed anything" : wrong + " wrong");
        if (wrong != 0) {
            System.exit(1);
        }
    }

    private static void go(Random random, int run) {
        WhoseWork x = new WhoseWork();
        for (int i = 0; i < CALLS; i++) {
            int method = random.nextInt(31);
            int[] a = {number(random), number(random), number(random), number(random)};
            long before = i % 16 == 0 ? seen(x) : 0;
            int answer;
            try {
                answer = random.nextInt(6) == 0 ? tell(x, random) : call(x, method, a, random);
            } catch (RuntimeException e) {
                wrong++;
                System.out.println("run " + run + ", method " + method + ", " + java.util.Arrays.toString(a) + " threw " + e);
                return;
            }
            if (i % 16 == 0 && answer < -1 && seen(x) != before) {
                wrong++;
                System.out.println("run " + run + ", method " + method + ", " + java.util.Arrays.toString(a) + " refused with "
                    + answer + " and changed something");
            }
        }
    }

    private static int number(Random random) {
        switch (random.nextInt(4)) {
            case 0: return random.nextInt();
            case 1: return EDGES[random.nextInt(EDGES.length)];
            default: return random.nextInt(random.nextBoolean() ? 6 : 240);
        }
    }

    /** One write; whole lines more often than not, so that bounds come about. */
    private static int tell(WhoseWork x, Random random) {
        if (x.count(1) == 0 && random.nextInt(3) > 0) {
            String line = LINES[random.nextInt(LINES.length)];
            for (int from = 0; from + 8 < line.length(); from += 8) {
                x.write(packed(line.substring(from, from + 8)), 8);
            }
            int rest = (line.length() - 1) % 8 + 1;
            x.write(packed(line.substring(line.length() - rest)), rest);
            return x.bounds() >= 0 ? 0 : x.erase();
        }
        String piece = PIECES[random.nextInt(PIECES.length)];
        return x.write(packed(piece), piece.length());
    }

    private static long packed(String text) {
        long bytes = 0;
        for (int i = 0; i < text.length(); i++) {
            bytes |= (long) text.charAt(i) << 8 * i;
        }
        return bytes;
    }

    private static int call(WhoseWork x, int method, int[] a, Random random) {
        switch (method) {
            case 0: return x.write(random.nextLong(), a[0]);
            case 1: return random.nextInt(4) == 0 ? x.erase() : x.fault();
            case 2: return x.fault();
            case 3: return x.bounds();
            case 4: return random.nextInt(3) == 0 ? x.strike(a[0]) : x.idle();
            case 5: return x.bound(a[0], a[1]);
            case 6: return x.may(a[0], a[1]);
            case 7: return x.why(a[0], a[1]);
            case 8: return x.who(a[0]);
            case 9: return x.works(a[0], a[1]);
            case 10: return x.step(a[0], a[1], a[2]);
            case 11: return random.nextInt(4) == 0 ? x.clear(a[0]) : x.step(a[0], a[1], a[2]);
            case 12: return x.price(a[0], a[1], a[2]);
            case 13: return x.days(a[0], a[1]);
            case 14: return x.carry(a[0]);
            case 15: return x.judge(a[0], a[1], a[2]);
            case 16: return x.told(a[0], a[1], a[2], a[3]);
            case 17: return x.can(a[0], a[1]);
            case 18: return x.fewest(a[0], a[1]);
            case 19: return x.best(a[0], a[1], a[2]);
            case 20: return x.way(a[0], a[1], a[2], a[3]);
            case 21: return x.alone(a[0]);
            case 22: return x.sly(a[0], a[1], a[2]);
            case 23: return x.struck(a[0], a[1]);
            case 24: return x.takes(a[0], a[1], a[2]);
            case 25: return x.idle();
            case 26: return x.seize(a[0], a[1], a[2]);
            case 27: return x.right(a[0]);
            case 28: return x.year(a[0]);
            case 29: return x.yearly(a[0]);
            default: return x.count(a[0]);
        }
    }

    /** What a good many questions answer, in one number; prices are put back as they were. */
    private static long seen(WhoseWork x) {
        long sum = x.fault();
        for (int what = 0; what <= 9; what++) {
            sum = sum * 31 + x.count(what);
        }
        for (int bound = 0; bound < x.count(0); bound++) {
            for (int what = 0; what < 7; what++) {
                sum = sum * 31 + x.bound(bound, what);
            }
        }
        for (int guild = 0; guild < 6; guild++) {
            for (int work = 0; work < 240; work += 7) {
                sum = sum * 31 + x.why(guild, work);
            }
            sum = sum * 31 + x.alone(guild);
            sum = sum * 31 + x.yearly(guild);
            int days = x.days(guild, 1);
            x.days(guild, days);
            sum = sum * 31 + days;
            for (int verb = 0; verb < 6; verb++) {
                int price = x.price(guild, verb, 0);
                x.price(guild, verb, price);
                sum = sum * 31 + price;
            }
        }
        int carry = x.carry(0);
        x.carry(carry);
        sum = sum * 31 + carry;
        for (int i = -1; i < x.count(2); i++) {
            sum = sum * 31 + x.right(i);
        }
        for (int thing = 0; thing < 6; thing++) {
            sum = sum * 31 + x.fewest(thing, 1);
            sum = sum * 31 + x.best(thing, 63, 0);
            sum = sum * 31 + x.best(thing, 63, 1);
            sum = sum * 31 + x.sly(thing, 9, 0);
        }
        return sum;
    }
}
