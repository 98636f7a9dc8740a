/** Each promise of the document by hand: ordinary inputs, the edges that it names, wrong inputs. */
public final class PromisesTest {
    private static final int NONE = -1, UNKNOWN = -2, OUTSIDE = -3, NOT = -4, FULL = -5;
    private static final int LOW = Integer.MIN_VALUE, HIGH = Integer.MAX_VALUE;

    private static int wrong = 0;
    private static String promise = "";

    public static void main(String[] args) {
        newObject();
        writing();
        erasing();
        faults();
        faultsOfBytes();
        enacting();
        striking();
        cellsOfBounds();
        mayAndWhy();
        whoAndWorks();
        stepsAndClearing();
        tariffs();
        judging();
        telling();
        canAndFewest();
        bestAndWay();
        aloneOnes();
        slyOnes();
        struckOnes();
        takenAndIdle();
        seizing();
        yearAndCount();
        System.out.println(wrong == 0 ? "all answers are as due" : wrong + " answers are not as due");
        if (wrong != 0) {
            System.exit(1);
        }
    }

    private static void due(String call, int got, int want) {
        if (got != want) {
            wrong++;
            System.out.println("promise " + promise + ": " + call + " answered " + got + ", due is " + want);
        }
    }

    private static int tell(WhoseWork x, String text) {
        int answer = 0;
        for (int from = 0; from < text.length(); from += 8) {
            int n = Math.min(8, text.length() - from);
            long bytes = 0;
            for (int i = 0; i < n; i++) {
                bytes |= (long) text.charAt(from + i) << 8 * i;
            }
            answer = x.write(bytes, n);
        }
        return answer;
    }

    private static WhoseWork under(String... texts) {
        WhoseWork x = new WhoseWork();
        for (String text : texts) {
            tell(x, text);
            if (x.bounds() < 0) {
                wrong++;
                System.out.println("promise " + promise + ": not enacted: " + text);
            }
        }
        return x;
    }

    private static void dueFault(String text, int want) {
        WhoseWork x = new WhoseWork();
        tell(x, text);
        due("fault of '" + text + "'", x.fault(), want);
        due("bounds of '" + text + "'", x.bounds() < 0 ? 1 : 0, want == NONE ? 0 : 1);
        due("count(1) behind '" + text + "'", x.count(1), want == NONE ? 0 : text.length());
    }

    private static int work(int verb, int stuff, int depth) {
        return 40 * verb + 10 * stuff + depth;
    }

    private static void newObject() {
        promise = "1";
        WhoseWork x = new WhoseWork();
        for (int what = 0; what <= 9; what++) {
            due("count(" + what + ")", x.count(what), 0);
        }
        for (int guild = 0; guild < 6; guild++) {
            due("days", x.days(guild, 1), 1);
            for (int verb = 0; verb < 6; verb++) {
                due("price", x.price(guild, verb, 1), 1);
            }
            due("alone", x.alone(guild), 0);
            due("yearly", x.yearly(guild), 0);
        }
        due("carry(0)", x.carry(0), 0);
        due("idle()", x.idle(), 0);
        due("right(-1)", x.right(-1), NONE);
        due("works(0, -1)", x.works(0, -1), 240);
        due("works(1, -1)", x.works(1, -1), 0);
        due("works(2, -1)", x.works(2, -1), 0);
    }

    private static void writing() {
        promise = "2";
        WhoseWork x = new WhoseWork();
        due("write(0, 0)", x.write(0, 0), OUTSIDE);
        due("write(0, 9)", x.write(0, 9), OUTSIDE);
        due("write(0, -1)", x.write(0, -1), OUTSIDE);
        due("write(0, LOW)", x.write(0, LOW), OUTSIDE);
        due("write(0, HIGH)", x.write(0, HIGH), OUTSIDE);
        due("count(1)", x.count(1), 0);
        due("write(-1, 1)", x.write(-1L, 1), 1);
        due("write(-1, 8)", x.write(-1L, 8), 9);
        for (int i = 0; i < 18; i++) {
            x.write(0, 8);
        }
        due("count(1)", x.count(1), 153);
        due("write(0, 8)", x.write(0, 8), FULL);
        due("write(0, 9)", x.write(0, 9), OUTSIDE);
        due("count(1)", x.count(1), 153);
        due("write(0, 7)", x.write(0, 7), 160);
        due("write(0, 1)", x.write(0, 1), FULL);
        due("count(1)", x.count(1), 160);

        // bytes beyond the n-th are not told
        WhoseWork y = new WhoseWork();
        tell(y, "grant 0 al");
        y.write('l' | (long) 'z' << 8, 1);
        due("fault()", y.fault(), NONE);
        WhoseWork full = new WhoseWork();
        due("160 bytes", tell(full, "grant 0 all;" + "grant 1 all;".repeat(6) + "grant 2" + " ".repeat(66) + "all"), 160);
        due("fault()", full.fault(), NONE);
        due("bounds()", full.bounds(), 8);
    }

    private static void erasing() {
        promise = "3";
        WhoseWork x = new WhoseWork();
        due("erase()", x.erase(), 0);
        tell(x, "grant 0 all");
        due("erase()", x.erase(), 11);
        due("erase()", x.erase(), 0);
        due("fault()", x.fault(), 0);
        due("write", tell(x, "guild"), 5);
        due("fault()", x.fault(), 5);
    }

    private static void faults() {
        promise = "4";
        dueFault("", 0);
        dueFault("   ", 3);
        dueFault(";", 0);
        dueFault("  ;", 2);
        dueFault("guild 0 may all", NONE);
        dueFault("  guild  0  not  all  ", NONE);
        dueFault("guild0only all", NONE);
        dueFault("guild0beside1do5of3from0to0", NONE);
        dueFault("grant5to0", NONE);
        dueFault("grant 5 from 9", NONE);
        dueFault("grant 5 of 0", NONE);
        dueFault("grant 0 all;grant 1 all", NONE);
        dueFault("grant 0 all ; grant 1 do 0 ;guild 2 may of 3", NONE);
        dueFault("guilds 0 may all", 0);
        dueFault("guil 0 may all", 0);
        dueFault("may 0 all", 0);
        dueFault("0 guild may all", 0);
        dueFault("guild may all", 6);
        dueFault("guild 6 may all", 6);
        dueFault("guild 00 may all", 6);
        dueFault("guild 12 may all", 6);
        dueFault("guild -1 may all", 6);
        dueFault("guild 1 all", 8);
        dueFault("guild 1 grant all", 8);
        dueFault("guild 1 mays all", 8);
        dueFault("guild 1 1 may all", 8);
        dueFault("guild 1 may", 11);
        dueFault("guild 1 may ", 12);
        dueFault("guild 1 may;", 11);
        dueFault("guild 1 may 1", 12);
        dueFault("guild 1 mayall", 8);
        dueFault("grant 1 beside 2 all", 8);
        dueFault("grant 6 all", 6);
        dueFault("guild 1 beside all", 15);
        dueFault("guild 1 beside 1 all", 15);
        dueFault("guild 1 beside 6 all", 15);
        dueFault("guild 1 beside 0 all", NONE);
        dueFault("guild 1 beside 2", 16);
        dueFault("guild 1 beside 2 3", 17);
        dueFault("grant 1 do", 10);
        dueFault("grant 1 do 6", 11);
        dueFault("grant 1 do 5", NONE);
        dueFault("grant 1 do 05", 11);
        dueFault("grant 1 of 4", 11);
        dueFault("grant 1 of 3", NONE);
        dueFault("grant 1 from 10", 13);
        dueFault("grant 1 to 10", 11);
        dueFault("grant 1 to 9", NONE);
        dueFault("guild 1 beside 2 from 0 to 9", NONE);
        dueFault("guild 1 beside", 14);
        dueFault("guild 1", 7);
        dueFault("grant 1 do 1 do 2", 13);
        dueFault("grant 1 of 1 of 2", 13);
        dueFault("grant 1 of 1 do 2", 13);
        dueFault("grant 1 from 1 of 2", 15);
        dueFault("grant 1 from 1 from 2", 15);
        dueFault("grant 1 to 1 from 0", 13);
        dueFault("grant 1 to 1 to 1", 13);
        dueFault("grant 1 from 3 to 2", 18);
        dueFault("grant 1 from 3 to 3", NONE);
        dueFault("grant 1 from 3 to", 17);
        dueFault("grant 1 all all", 12);
        dueFault("grant 1 all 1", 12);
        dueFault("grant 1 all to 1", 12);
        dueFault("grant 1 do 1 all", 13);
        dueFault("grant 1 all;", 12);
        dueFault("grant 1 all;  ", 14);
        dueFault("grant 1 all;;", 12);
        dueFault("grant 1 all;guild 1 grant all", 20);
        dueFault("grant 1 all:grant 2 all", 11);
        dueFault("grant 1 all.", 11);
        dueFault(";grant 1 all", 0);
    }

    private static void faultsOfBytes() {
        dueFault("Guild 1 may all", 0);
        dueFault("guilD 1 may all", 0);
        dueFault("guild\t1 may all", 5);
        dueFault("guild 1 may all\n", 15);
        dueFault("guild 1 may all\u0000", 15);
        dueFault("guild 1 may a\u00e9", 12);
        dueFault("guild 1 may \u00ff", 12);
        dueFault("`", 0);
        dueFault("{", 0);
        dueFault("/", 0);
        dueFault("grant 1 do /", 11);
        dueFault("grant 1 do :", 11);
        // eight lines stand, and the ; behind them, or another token, does not
        String eight = "grant 0 all;".repeat(7) + "grant 0 all";
        dueFault(eight, NONE);
        dueFault(eight + " ", NONE);
        dueFault(eight + ";", 95);
        dueFault(eight + " ;", 96);
        dueFault(eight + ";grant 0 all", 95);
        dueFault(eight + " do 1", 96);
    }

    private static void enacting() {
        promise = "5";
        WhoseWork x = new WhoseWork();
        due("bounds()", x.bounds(), NOT);
        tell(x, "grant 0 al");
        due("bounds()", x.bounds(), NOT);
        due("count(1)", x.count(1), 10);
        due("count(0)", x.count(0), 0);
        tell(x, "l");
        due("bounds()", x.bounds(), 1);
        due("count(1)", x.count(1), 0);
        due("bounds()", x.bounds(), NOT);
        tell(x, "guild 1 may all;guild 2 not of 1");
        due("bounds()", x.bounds(), 3);
        due("bound(2, 0)", x.bound(2, 0), 1);
        due("bound(2, 1)", x.bound(2, 1), 2);
        due("bound(0, 0)", x.bound(0, 0), 4);
        tell(x, "grant 0 all;".repeat(7) + "grant 0 all");
        due("bounds()", x.bounds(), 11);
        tell(x, "grant 0 all;".repeat(7) + "grant 0 all");
        due("bounds()", x.bounds(), 19);
        tell(x, "grant 5 all;grant 5 all");
        due("bounds()", x.bounds(), FULL);
        due("count(0)", x.count(0), 19);
        due("count(1)", x.count(1), 23);
        due("fault()", x.fault(), NONE);
        due("who(0)", x.who(0), 3);
        tell(x, ";");
        due("bounds()", x.bounds(), NOT);
        x.erase();
        tell(x, "grant 5 all");
        due("bounds()", x.bounds(), 20);
        due("bound(19, 1)", x.bound(19, 1), 5);
        tell(x, "grant 5 all");
        due("bounds()", x.bounds(), FULL);
        due("strike(0)", x.strike(0), 19);
        due("bounds()", x.bounds(), 20);
    }

    private static void striking() {
        promise = "6";
        WhoseWork x = new WhoseWork();
        due("strike(0)", x.strike(0), UNKNOWN);
        x = under("guild 0 may do 0;guild 1 beside 2 do 1;guild 2 only do 2;grant 3 do 3 of 1 from 2 to 4");
        due("strike(-1)", x.strike(-1), UNKNOWN);
        due("strike(4)", x.strike(4), UNKNOWN);
        due("strike(LOW)", x.strike(LOW), UNKNOWN);
        due("strike(HIGH)", x.strike(HIGH), UNKNOWN);
        due("count(0)", x.count(0), 4);
        due("strike(1)", x.strike(1), 3);
        due("bound(1, 0)", x.bound(1, 0), 2);
        due("bound(2, 0)", x.bound(2, 0), 4);
        due("bound(2, 4)", x.bound(2, 4), 1);
        due("bound(3, 0)", x.bound(3, 0), UNKNOWN);
        due("why(3, 132)", x.why(3, work(3, 1, 2)), 2);
        due("why(0, 80)", x.why(0, work(2, 0, 0)), 1);
        due("who(40)", x.who(work(1, 0, 0)), 0);
        due("strike(2)", x.strike(2), 2);
        due("who(132)", x.who(work(3, 1, 2)), 0);
        due("strike(0)", x.strike(0), 1);
        due("why(2, 80)", x.why(2, 80), 0);
        due("strike(0)", x.strike(0), 0);
        due("works(0, -1)", x.works(0, -1), 240);
        due("strike(0)", x.strike(0), UNKNOWN);
        // those told behind come behind those that are left
        tell(x, "guild 5 may all");
        due("bounds()", x.bounds(), 1);
        due("why(5, 0)", x.why(5, 0), 0);
        due("why(2, 80)", x.why(2, 80), NONE);
    }

    private static void cellsOfBounds() {
        promise = "7";
        WhoseWork x = under("guild 0 may all;guild 1 not do 5;guild 2 only of 3 to 4;guild 3 beside 4 from 7;grant 5 do 2 of 1 from 3 to 6");
        int[][] want = {
            {0, 0, NONE, NONE, NONE, 0, 9},
            {1, 1, NONE, 5, NONE, 0, 9},
            {2, 2, NONE, NONE, 3, 0, 4},
            {3, 3, 4, NONE, NONE, 7, 9},
            {4, 5, NONE, 2, 1, 3, 6},
        };
        for (int bound = 0; bound < want.length; bound++) {
            for (int what = 0; what < 7; what++) {
                due("bound(" + bound + ", " + what + ")", x.bound(bound, what), want[bound][what]);
            }
        }
        due("bound(0, -1)", x.bound(0, -1), OUTSIDE);
        due("bound(0, 7)", x.bound(0, 7), OUTSIDE);
        due("bound(5, 0)", x.bound(5, 0), UNKNOWN);
        due("bound(-1, 0)", x.bound(-1, 0), UNKNOWN);
        due("bound(5, 7)", x.bound(5, 7), UNKNOWN);
        due("bound(HIGH, LOW)", x.bound(HIGH, LOW), UNKNOWN);
    }

    private static void mayAndWhy() {
        promise = "8, 9";
        WhoseWork x = new WhoseWork();
        for (int bad : new int[] {-1, 6, LOW, HIGH}) {
            due("may(bad, 0)", x.may(bad, 0), UNKNOWN);
            due("why(bad, 0)", x.why(bad, 0), UNKNOWN);
        }
        for (int bad : new int[] {-1, 240, LOW, HIGH}) {
            due("may(0, bad)", x.may(0, bad), UNKNOWN);
            due("why(0, bad)", x.why(0, bad), UNKNOWN);
            due("who(bad)", x.who(bad), UNKNOWN);
        }
        // the last of its own decides, among may, not and beside
        x = under("guild 0 may all;guild 0 not do 1;guild 0 beside 5 do 1 of 2;guild 0 may do 1 of 2 from 8");
        dueMay(x, 0, work(0, 0, 0), 1, 0);
        dueMay(x, 0, work(1, 0, 0), 0, 1);
        dueMay(x, 0, work(1, 2, 0), 7, 2);
        dueMay(x, 0, work(1, 2, 8), 1, 3);
        dueMay(x, 1, work(1, 2, 8), 0, NONE);
        // the edges of a reach
        x = under("guild 0 may do 2 of 1 from 3 to 5");
        dueMay(x, 0, work(2, 1, 2), 0, NONE);
        dueMay(x, 0, work(2, 1, 3), 1, 0);
        dueMay(x, 0, work(2, 1, 5), 1, 0);
        dueMay(x, 0, work(2, 1, 6), 0, NONE);
        dueMay(x, 0, work(2, 0, 4), 0, NONE);
        dueMay(x, 0, work(2, 2, 4), 0, NONE);
        dueMay(x, 0, work(1, 1, 4), 0, NONE);
        dueMay(x, 0, work(3, 1, 4), 0, NONE);
        // an only shuts the others out, told ahead or behind; the first such decides
        x = under("guild 1 may all;guild 0 only do 0;guild 2 only do 0 of 0;guild 1 may do 0");
        dueMay(x, 1, work(0, 0, 0), 0, 1);
        dueMay(x, 1, work(0, 1, 0), 0, 1);
        dueMay(x, 2, work(0, 1, 0), 0, 1);
        dueMay(x, 2, work(0, 0, 0), 1, 2);
        dueMay(x, 0, work(0, 0, 0), 1, 1);
        dueMay(x, 1, work(1, 0, 0), 1, 0);
        dueMay(x, 3, work(1, 0, 0), 0, NONE);
        // an only of its own keeps it in, but its last word decides
        x = under("guild 0 only all;guild 1 only all;guild 1 not do 3;guild 1 beside 0 do 4;guild 0 not do 3 of 3");
        dueMay(x, 1, work(0, 0, 0), 1, 1);
        dueMay(x, 1, work(3, 0, 0), 0, 2);
        dueMay(x, 1, work(4, 0, 0), 2, 3);
        dueMay(x, 0, work(3, 3, 0), 0, 4);
        dueMay(x, 2, work(3, 3, 0), 0, 0);
        // a grant stands above all; the first decides; a grant is no only of its own
        x = under("guild 0 only all;guild 1 not all;grant 1 do 1;grant 1 do 1 of 2;guild 1 not all");
        dueMay(x, 1, work(1, 2, 0), 1, 2);
        dueMay(x, 1, work(2, 2, 0), 0, 0);
        dueMay(x, 0, work(1, 2, 0), 1, 0);
        dueMay(x, 2, work(1, 2, 0), 0, 0);
        // beside one who may not, and every one beside whom
        x = under("guild 0 beside 1 all;guild 1 beside 0 all;guild 2 beside 5 all");
        dueMay(x, 0, 239, 3, 0);
        dueMay(x, 1, 239, 2, 1);
        dueMay(x, 2, 239, 7, 2);
        dueMay(x, 5, 239, 0, NONE);
    }

    private static void dueMay(WhoseWork x, int guild, int work, int may, int why) {
        due("may(" + guild + ", " + work + ")", x.may(guild, work), may);
        due("why(" + guild + ", " + work + ")", x.why(guild, work), why);
    }

    private static void whoAndWorks() {
        promise = "10, 11";
        WhoseWork x = under("guild 0 may do 0;guild 1 beside 2 do 0 of 1;guild 3 only do 5 of 3 from 8;guild 4 only do 5 of 3 to 8;guild 5 may do 5 of 3");
        due("who(0)", x.who(work(0, 0, 0)), 1);
        due("who(10)", x.who(work(0, 1, 0)), 3);
        due("who(40)", x.who(work(1, 0, 0)), 0);
        due("who(237)", x.who(237), 16);
        due("who(238)", x.who(238), 24);
        due("who(239)", x.who(239), 8);
        due("works(0, -1)", x.works(0, -1), 190);
        due("works(0, 0)", x.works(0, 0), 40);
        due("works(0, 189)", x.works(0, 189), 229);
        due("works(0, 190)", x.works(0, 190), NONE);
        due("works(0, HIGH)", x.works(0, HIGH), NONE);
        due("works(1, -1)", x.works(1, -1), 11);
        due("works(1, 0)", x.works(1, 0), 10);
        due("works(1, 9)", x.works(1, 9), 19);
        due("works(1, 10)", x.works(1, 10), 238);
        due("works(1, 11)", x.works(1, 11), NONE);
        due("works(2, -1)", x.works(2, -1), 1);
        due("works(2, 0)", x.works(2, 0), 238);
        due("works(2, 1)", x.works(2, 1), NONE);
        due("works(-1, 0)", x.works(-1, 0), OUTSIDE);
        due("works(3, 0)", x.works(3, 0), OUTSIDE);
        due("works(0, -2)", x.works(0, -2), OUTSIDE);
        due("works(0, LOW)", x.works(0, LOW), OUTSIDE);
        // two onlys of one guild claim nothing; a claimed work may be one that nobody may
        x = under("guild 0 only do 0;guild 0 only all;guild 1 only do 1 of 1 from 1 to 1;guild 1 not all;guild 0 not do 1");
        due("works(2, -1)", x.works(2, -1), 1);
        due("works(2, 0)", x.works(2, 0), work(1, 1, 1));
        due("works(0, -1)", x.works(0, -1), 40);
        due("who(51)", x.who(work(1, 1, 1)), 0);
    }

    private static void stepsAndClearing() {
        promise = "12, 13";
        WhoseWork x = new WhoseWork();
        due("step(0, 0, NONE)", x.step(0, 0, NONE), 1);
        due("step(0, 239, 239)", x.step(0, 239, 239), 2);
        due("step(5, 0, 0)", x.step(5, 0, 0), 1);
        for (int bad : new int[] {-1, 6, LOW, HIGH}) {
            due("step(bad, 0, 0)", x.step(bad, 0, 0), UNKNOWN);
            due("clear(bad)", x.clear(bad), UNKNOWN);
        }
        for (int bad : new int[] {240, -2, LOW, HIGH}) {
            due("step(0, bad, 0)", x.step(0, bad, 0), UNKNOWN);
            due("step(0, 0, bad)", x.step(0, 0, bad), UNKNOWN);
        }
        due("step(0, NONE, 0)", x.step(0, NONE, 0), UNKNOWN);
        due("count(4)", x.count(4), 2);
        due("count(9)", x.count(9), 1);
        for (int i = 3; i <= 8; i++) {
            due("step(0, 1, 2)", x.step(0, 1, 2), i);
        }
        due("step(0, 1, 2)", x.step(0, 1, 2), FULL);
        due("step(0, 240, 2)", x.step(0, 240, 2), UNKNOWN);
        due("count(4)", x.count(4), 8);
        due("clear(0)", x.clear(0), 8);
        due("clear(0)", x.clear(0), 0);
        due("count(4)", x.count(4), 0);
        due("count(9)", x.count(9), 1);
        // another one of a step that was cleared does not come back
        tell(x, "guild 0 may do 1");
        x.bounds();
        x.step(0, 0, 40);
        due("can(0, 1)", x.can(0, 1), 1);
        x.clear(0);
        due("step(0, 0, NONE)", x.step(0, 0, NONE), 1);
        due("can(0, 1)", x.can(0, 1), 0);
        due("judge(0, 0, 1)", x.judge(0, 0, 1), 0);
    }

    private static void tariffs() {
        promise = "14, 15, 16";
        WhoseWork x = new WhoseWork();
        due("price(5, 5, 99)", x.price(5, 5, 99), 1);
        due("price(5, 5, 0)", x.price(5, 5, 0), 99);
        due("price(5, 5, 100)", x.price(5, 5, 100), OUTSIDE);
        due("price(5, 5, -1)", x.price(5, 5, -1), OUTSIDE);
        due("price(5, 6, 1)", x.price(5, 6, 1), OUTSIDE);
        due("price(5, -1, 1)", x.price(5, -1, 1), OUTSIDE);
        due("price(6, 6, 100)", x.price(6, 6, 100), UNKNOWN);
        due("price(-1, 0, 1)", x.price(-1, 0, 1), UNKNOWN);
        due("price(5, 5, 7)", x.price(5, 5, 7), 0);
        due("price(5, 4, 3)", x.price(5, 4, 3), 1);
        due("price(4, 5, 3)", x.price(4, 5, 3), 1);
        due("price(5, 5, 7)", x.price(5, 5, 7), 7);
        due("days(0, 9)", x.days(0, 9), 1);
        due("days(0, 10)", x.days(0, 10), OUTSIDE);
        due("days(0, 0)", x.days(0, 0), OUTSIDE);
        due("days(6, 0)", x.days(6, 0), UNKNOWN);
        due("days(-1, 1)", x.days(-1, 1), UNKNOWN);
        due("days(0, 1)", x.days(0, 1), 9);
        due("days(5, 2)", x.days(5, 2), 1);
        due("carry(99)", x.carry(99), 0);
        due("carry(100)", x.carry(100), OUTSIDE);
        due("carry(-1)", x.carry(-1), OUTSIDE);
        due("carry(0)", x.carry(0), 99);
        due("carry(0)", x.carry(0), 0);
    }

    private static int guilds(int... row) {
        int told = 0;
        for (int i = 0; i < row.length; i++) {
            told |= row[i] << 3 * i;
        }
        return told;
    }

    private static void judging() {
        promise = "17";
        WhoseWork x = under("guild 0 may do 0;guild 1 beside 2 do 1;guild 3 not all");
        due("judge(6, 0, 0)", x.judge(6, 0, 0), UNKNOWN);
        due("judge(-1, 0, 0)", x.judge(-1, 0, 0), UNKNOWN);
        due("judge(0, 7, 1)", x.judge(0, 7, 1), NONE);
        x.step(0, work(0, 0, 0), NONE);
        x.step(0, work(0, 0, 0), work(1, 0, 0));
        x.step(0, work(1, 0, 0), work(2, 0, 0));
        due("a way", x.judge(0, guilds(0, 0, 1), 0), NONE);
        due("a way by the other work", x.judge(0, guilds(0, 1, 1), 2), NONE);
        due("no other work", x.judge(0, guilds(0, 0, 1), 1), 0);
        due("may not", x.judge(0, guilds(0, 1, 1), 0), 1);
        due("may not the other", x.judge(0, guilds(0, 0, 1), 2), 1);
        due("nobody may", x.judge(0, guilds(0, 0, 1), 4), 2);
        due("no guild 6", x.judge(0, guilds(0, 6, 1), 0), 1);
        due("no guild 7", x.judge(0, guilds(0, 0, 7), 0), 2);
        due("the first of two", x.judge(0, guilds(0, 7, 7), 0), 1);
        due("what is told beyond the steps", x.judge(0, guilds(0, 0, 1, 7, 7, 7, 7, 7) | 0xFF000000, ~7), NONE);
        due("all bits", x.judge(0, -1, -1), 0);
        // eight steps, the last by its own bits
        for (int i = 0; i < 8; i++) {
            x.step(1, 0, NONE);
        }
        due("judge(1, 0, 0)", x.judge(1, 0, 0), NONE);
        due("judge(1, 1 << 21, 0)", x.judge(1, 1 << 21, 0), 7);
        due("judge(1, 0, 128)", x.judge(1, 0, 128), 7);
        due("judge(1, 0, 256)", x.judge(1, 0, 256), NONE);
        due("judge(1, 1 << 24, 0)", x.judge(1, 1 << 24, 0), NONE);
    }

    private static void telling() {
        promise = "18";
        WhoseWork x = under("guild 0 may all;guild 1 may all;guild 2 beside 3 all;guild 4 beside 0 do 1");
        x.step(0, work(0, 0, 0), work(1, 0, 0));
        x.step(0, work(2, 0, 0), NONE);
        x.step(0, work(2, 0, 0), work(1, 0, 0));
        x.price(0, 0, 10);
        x.price(0, 1, 20);
        x.price(0, 2, 30);
        x.price(2, 2, 50);
        x.days(0, 3);
        x.days(2, 7);
        x.carry(5);
        due("costs", x.told(0, guilds(0, 0, 0), 0, 0), 70);
        due("days", x.told(0, guilds(0, 0, 0), 0, 1), 9);
        due("hands", x.told(0, guilds(0, 0, 0), 0, 2), 1);
        due("costs by the other works", x.told(0, guilds(0, 0, 0), 5, 0), 70);
        due("costs with carrying", x.told(0, guilds(0, 2, 0), 0, 0), 100);
        due("days with carrying", x.told(0, guilds(0, 2, 0), 0, 1), 15);
        due("hands beside", x.told(0, guilds(0, 2, 0), 0, 2), 13);
        due("hands beside one that is there", x.told(0, guilds(0, 1, 4), 4, 2), 19);
        due("costs, carried twice", x.told(0, guilds(0, 1, 4), 4, 0), 22);
        due("days, carried twice", x.told(0, guilds(0, 1, 4), 4, 1), 7);
        due("told(0, .., -1)", x.told(0, 0, 0, -1), OUTSIDE);
        due("told(0, .., 3)", x.told(0, 0, 0, 3), OUTSIDE);
        due("told(6, .., 3)", x.told(6, 0, 0, 3), UNKNOWN);
        due("no way, what 3", x.told(0, 7, 0, 3), OUTSIDE);
        due("no way", x.told(0, guilds(4, 0, 0), 0, 0), NOT);
        due("no way, what 2", x.told(0, guilds(0, 0, 0), 2, 2), NOT);
        for (int what = 0; what < 3; what++) {
            due("no steps", x.told(1, 7, 7, what), 0);
        }
    }

    private static void canAndFewest() {
        promise = "19, 20";
        WhoseWork x = under("guild 0 may do 0;guild 1 may do 1;guild 2 beside 3 do 2;guild 4 may do 2;guild 5 beside 0 do 3");
        for (int set = 0; set < 64; set++) {
            due("can(0, set)", x.can(0, set), 1);
        }
        due("fewest(0, 0)", x.fewest(0, 0), 0);
        due("fewest(0, 1)", x.fewest(0, 1), 0);
        x.step(0, work(2, 0, 0), NONE);
        due("can(0, 4)", x.can(0, 4), 0);
        due("can(0, 8)", x.can(0, 8), 0);
        due("can(0, 12)", x.can(0, 12), 1);
        due("can(0, 16)", x.can(0, 16), 1);
        due("can(0, 63)", x.can(0, 63), 1);
        due("can(0, 0)", x.can(0, 0), 0);
        due("fewest(0, 0)", x.fewest(0, 0), 1);
        due("fewest(0, 1)", x.fewest(0, 1), 16);
        x.step(0, work(1, 0, 0), work(3, 0, 0));
        // guilds 1 and 4; or 1, 2 and 3; or 4, 5 and 0
        due("can(0, 18)", x.can(0, 18), 1);
        due("can(0, 14)", x.can(0, 14), 1);
        due("can(0, 49)", x.can(0, 49), 1);
        due("can(0, 48)", x.can(0, 48), 0);
        due("fewest(0, 0)", x.fewest(0, 0), 2);
        due("fewest(0, 1)", x.fewest(0, 1), 18);
        // of as many the least number; fewer ahead of a lesser number
        x.step(1, work(0, 0, 0), work(1, 0, 0));
        x.step(1, work(0, 0, 0), work(1, 0, 0));
        due("fewest(1, 1)", x.fewest(1, 1), 1);
        x.step(1, work(1, 0, 0), work(2, 0, 0));
        due("fewest(1, 1)", x.fewest(1, 1), 2);
        x.step(2, work(4, 0, 0), NONE);
        due("fewest(2, 0)", x.fewest(2, 0), NONE);
        due("fewest(2, 1)", x.fewest(2, 1), NONE);
        due("can(2, 63)", x.can(2, 63), 0);
        due("can(6, 0)", x.can(6, 0), UNKNOWN);
        due("can(-1, 64)", x.can(-1, 64), UNKNOWN);
        due("can(0, -1)", x.can(0, -1), OUTSIDE);
        due("can(0, 64)", x.can(0, 64), OUTSIDE);
        due("fewest(6, 2)", x.fewest(6, 2), UNKNOWN);
        due("fewest(-1, 0)", x.fewest(-1, 0), UNKNOWN);
        due("fewest(0, 2)", x.fewest(0, 2), OUTSIDE);
        due("fewest(0, -1)", x.fewest(0, -1), OUTSIDE);
    }

    private static void bestAndWay() {
        promise = "21, 22";
        WhoseWork x = under("guild 0 may all;guild 1 may all;guild 2 beside 3 all");
        x.step(0, work(0, 0, 0), NONE);
        x.step(0, work(1, 0, 0), work(2, 0, 0));
        x.step(0, work(0, 0, 0), NONE);
        x.price(0, 0, 10);
        x.price(0, 1, 40);
        x.price(0, 2, 30);
        x.price(1, 0, 50);
        x.price(1, 1, 5);
        x.price(1, 2, 5);
        x.price(2, 0, 4);
        x.price(2, 1, 60);
        x.price(2, 2, 60);
        x.carry(2);
        // 0, 1, 0: 10 + 2 + 5 + 2 + 10; 0, 0, 0: 50
        due("best(0, 3, 0)", x.best(0, 3, 0), 29);
        dueWay(x, 3, 0, 1, 0, 0, 0, 0);
        due("best(0, 1, 0)", x.best(0, 1, 0), 50);
        dueWay(x, 1, 0, 0, 0, 0, 1, 0);
        // 2 is not alone, 3 must be there
        due("best(0, 4, 0)", x.best(0, 4, 0), NONE);
        due("best(0, 8, 0)", x.best(0, 8, 0), NONE);
        due("best(0, 12, 0)", x.best(0, 12, 0), 68);
        due("best(0, 7, 0)", x.best(0, 7, 0), 29);
        due("best(0, 15, 0)", x.best(0, 15, 0), 17);
        dueWay(x, 15, 2, 1, 2, 0, 0, 0);
        // dear carrying: 2, 2, 2 asks 68; 0, 0, 0: 50; 0, 0, 2: 44 + c; 1, 1, 2: 59 + c; 2, 1, 2: 13 + 2 c
        x.carry(18);
        due("best(0, 15, 0)", x.best(0, 15, 0), 49);
        x.carry(19);
        due("best(0, 15, 0)", x.best(0, 15, 0), 50);
        dueWay(x, 15, 0, 0, 0, 0, 1, 0);
        due("best(0, 63, 1)", x.best(0, 63, 1), 3);
        x.days(0, 5);
        x.days(1, 4);
        due("best(0, 3, 1)", x.best(0, 3, 1), 12);
        due("best(0, 15, 1)", x.best(0, 15, 1), 3);
        due("best(0, 63, 2)", x.best(0, 63, 2), OUTSIDE);
        due("best(0, 63, -1)", x.best(0, 63, -1), OUTSIDE);
        due("best(0, 64, 0)", x.best(0, 64, 0), OUTSIDE);
        due("best(0, -1, 0)", x.best(0, -1, 0), OUTSIDE);
        due("best(6, 64, 2)", x.best(6, 64, 2), UNKNOWN);
        due("best(1, 0, 0)", x.best(1, 0, 0), 0);
        due("best(1, 0, 1)", x.best(1, 0, 1), 0);
        due("way(0, 63, 3, 0)", x.way(0, 63, 3, 0), NONE);
        due("way(0, 63, HIGH, 1)", x.way(0, 63, HIGH, 1), NONE);
        due("way(0, 4, 0, 0)", x.way(0, 4, 0, 0), NONE);
        due("way(0, 4, 0, 1)", x.way(0, 4, 0, 1), NONE);
        due("way(1, 63, 0, 0)", x.way(1, 63, 0, 0), NONE);
        due("way(0, 63, -1, 0)", x.way(0, 63, -1, 0), OUTSIDE);
        due("way(0, 63, 0, 2)", x.way(0, 63, 0, 2), OUTSIDE);
        due("way(0, 63, 0, -1)", x.way(0, 63, 0, -1), OUTSIDE);
        due("way(0, 64, 0, 0)", x.way(0, 64, 0, 0), OUTSIDE);
        due("way(0, -1, 0, 0)", x.way(0, -1, 0, 0), OUTSIDE);
        due("way(6, -1, -1, -1)", x.way(6, -1, -1, -1), UNKNOWN);
        firstOfTheCheapest();
        swiftOnes();
    }

    private static void firstOfTheCheapest() {
        // all ask the same: the first guild and the first choice at each step
        WhoseWork x = under("guild 4 may all;guild 1 may do 1;guild 0 beside 5 do 2");
        x.step(0, work(0, 0, 0), work(3, 0, 0));
        x.step(0, work(3, 0, 0), work(1, 0, 0));
        x.step(0, work(1, 0, 0), work(2, 0, 0));
        dueWay(x, 63, 4, 1, 0, 0, 1, 1);
        dueWay(x, 31, 4, 1, 1, 0, 1, 0);
        x.carry(1);
        dueWay(x, 63, 4, 4, 4, 0, 0, 0);
        x.price(4, 1, 0);
        dueWay(x, 63, 4, 4, 4, 0, 1, 0);
        x.price(4, 2, 0);
        x.price(4, 3, 0);
        dueWay(x, 63, 4, 4, 4, 1, 0, 0);
        due("best(0, 63, 0)", x.best(0, 63, 0), 0);
    }

    private static void swiftOnes() {
        // staying with a slow one against a day of carrying
        WhoseWork x = under("guild 0 may do 0;guild 1 may all");
        x.step(0, work(1, 0, 0), NONE);
        x.step(0, work(0, 0, 0), NONE);
        x.step(0, work(0, 0, 0), NONE);
        x.days(1, 2);
        x.carry(99);
        due("best(0, 3, 1)", x.best(0, 3, 1), 5);
        due("best(0, 2, 1)", x.best(0, 2, 1), 6);
        due("best(0, 1, 1)", x.best(0, 1, 1), NONE);
        x = under("guild 0 may do 0;guild 1 may do 1");
        for (int i = 0; i < 8; i++) {
            x.step(1, work(i % 2, 0, 0), NONE);
        }
        x.carry(99);
        x.price(0, 0, 99);
        x.price(1, 1, 99);
        x.days(0, 9);
        x.days(1, 9);
        due("the dearest way", x.best(1, 3, 0), 15 * 99);
        due("the slowest way", x.best(1, 3, 1), 8 * 9 + 7);
        for (int i = 0; i < 8; i++) {
            due("way(1, 3, i, 0)", x.way(1, 3, i, 0), i % 2);
        }
    }

    private static void dueWay(WhoseWork x, int set, int... row) {
        int n = row.length / 2;
        for (int i = 0; i < n; i++) {
            due("way(0, " + set + ", " + i + ", 0)", x.way(0, set, i, 0), row[i]);
            due("way(0, " + set + ", " + i + ", 1)", x.way(0, set, i, 1), row[n + i]);
        }
    }

    private static void aloneOnes() {
        promise = "23";
        WhoseWork x = under("guild 0 may do 0;guild 1 may all;guild 2 beside 3 all;guild 3 may do 1");
        x.step(0, work(0, 0, 0), NONE);
        x.step(5, work(2, 0, 0), work(0, 0, 0));
        x.step(5, work(0, 0, 0), NONE);
        x.step(3, work(0, 0, 0), NONE);
        x.step(3, work(1, 0, 0), NONE);
        due("alone(0)", x.alone(0), 1 | 32);
        due("alone(1)", x.alone(1), 1 | 8 | 32);
        due("alone(2)", x.alone(2), 0);
        due("alone(3)", x.alone(3), 0);
        due("alone(6)", x.alone(6), UNKNOWN);
        due("alone(-1)", x.alone(-1), UNKNOWN);
        x.clear(0);
        due("alone(0)", x.alone(0), 32);
    }

    private static void slyOnes() {
        promise = "24";
        WhoseWork x = under("guild 0 may do 0 from 5;guild 1 may do 0 to 4;guild 2 may do 1 of 0 from 2 to 2;guild 0 may do 1 of 1 from 3 to 4");
        due("sly(0, 9, 0)", x.sly(0, 9, 0), NONE);
        x.step(0, work(0, 0, 7), NONE);
        x.step(0, work(0, 1, 2), NONE);
        // depth 4 of the first makes it guild 1's, depth 5 of the second guild 0's
        due("fewest(0, 0)", x.fewest(0, 0), 2);
        due("sly(0, 2, 0)", x.sly(0, 2, 0), NONE);
        due("sly(0, 2, 1)", x.sly(0, 2, 1), NONE);
        due("sly(0, 3, 0)", x.sly(0, 3, 0), 4);
        due("sly(0, 3, 1)", x.sly(0, 3, 1), 1);
        due("sly(0, 9, 0)", x.sly(0, 9, 0), 0);
        // a thing that nobody can make: any will do, the fewest first
        x.step(1, work(0, 0, 6), NONE);
        x.step(1, work(1, 0, 3), work(1, 1, 5));
        due("fewest(1, 0)", x.fewest(1, 0), NONE);
        due("sly(1, 1, 0)", x.sly(1, 1, 0), 20 + 10 + 4);
        due("sly(1, 1, 1)", x.sly(1, 1, 1), 1);
        due("sly(1, 2, 0)", x.sly(1, 2, 0), 20 + 10 + 3);
        x.step(2, work(0, 0, 6), NONE);
        x.step(2, work(1, 0, 3), NONE);
        due("sly(2, 1, 0)", x.sly(2, 1, 0), 22);
        due("sly(2, 1, 1)", x.sly(2, 1, 1), 2);
        // one that one guild makes needs no fewer
        x.step(3, work(0, 0, 0), NONE);
        due("sly(3, 9, 0)", x.sly(3, 9, 0), NONE);
        // one that no change of one work makes
        x.step(4, work(5, 0, 0), work(5, 1, 0));
        due("sly(4, 9, 0)", x.sly(4, 9, 0), NONE);
        due("sly(0, 0, 0)", x.sly(0, 0, 0), OUTSIDE);
        due("sly(0, 10, 0)", x.sly(0, 10, 0), OUTSIDE);
        due("sly(0, 1, 2)", x.sly(0, 1, 2), OUTSIDE);
        due("sly(0, 1, -1)", x.sly(0, 1, -1), OUTSIDE);
        due("sly(6, 0, 2)", x.sly(6, 0, 2), UNKNOWN);
        due("sly(-1, 1, 0)", x.sly(-1, 1, 0), UNKNOWN);
        due("fewest(0, 0) as it was", x.fewest(0, 0), 2);
        due("the last step's code", lastSly(), 20 * 7 + 10 + 9);
        // from none to all six
        x = under("guild 0 may do 0;guild 1 may do 1;guild 2 may do 2;guild 3 may do 3;guild 4 may do 4;guild 5 may do 5 to 3");
        for (int verb = 0; verb < 6; verb++) {
            x.step(0, work(verb, 0, 5), NONE);
        }
        due("sly(0, 1, 0)", x.sly(0, 1, 0), NONE);
        due("sly(0, 2, 0)", x.sly(0, 2, 0), 20 * 5 + 3);
        due("sly(0, 2, 1)", x.sly(0, 2, 1), 6);
    }

    private static int lastSly() {
        WhoseWork x = under("guild 0 may all;guild 0 not do 5;guild 1 may do 5 of 3;guild 0 may do 5 of 3 from 9");
        for (int i = 0; i < 7; i++) {
            x.step(0, 0, NONE);
        }
        x.step(0, work(5, 2, 0), work(5, 3, 0));
        return x.sly(0, 9, 0);
    }

    private static void struckOnes() {
        promise = "25";
        WhoseWork x = under("guild 0 may all;guild 0 not do 0;guild 0 not do 1;guild 1 only do 0;guild 2 may do 1");
        due("no steps", x.struck(0, 0), 0);
        x.step(0, work(0, 0, 0), NONE);
        x.step(0, work(1, 0, 0), NONE);
        due("struck(0, 0)", x.struck(0, 0), NONE);
        due("struck(0, 1)", x.struck(0, 1), 2 | 4 | 8);
        due("struck(0, 2)", x.struck(0, 2), 0);
        due("struck(0, 6)", x.struck(0, 6), 0);
        due("struck(0, -1)", x.struck(0, -1), OUTSIDE);
        due("struck(0, 7)", x.struck(0, 7), OUTSIDE);
        due("struck(6, 7)", x.struck(6, 7), UNKNOWN);
        due("struck(-1, 0)", x.struck(-1, 0), UNKNOWN);
        due("count(0) as it was", x.count(0), 5);
        // of as many the least number
        x.step(1, work(1, 0, 0), NONE);
        x.step(1, work(2, 0, 0), NONE);
        due("struck(1, 1)", x.struck(1, 1), 4);
        WhoseWork y = under("guild 0 not all;guild 0 may do 1;guild 0 not all;guild 1 may do 2;guild 1 not do 2");
        y.step(0, work(1, 0, 0), work(2, 0, 0));
        due("struck(0, 1)", y.struck(0, 1), 4);
        // only the first ten may be struck out
        String nots = "guild 0 not all;".repeat(7);
        WhoseWork ten = under("guild 0 may all;" + nots.substring(0, nots.length() - 1), "guild 1 not all;guild 0 not all");
        ten.step(0, 0, NONE);
        due("struck(0, 1)", ten.struck(0, 1), 0b1011111110);
        tell(ten, "guild 0 not all");
        due("bounds()", ten.bounds(), 11);
        due("struck(0, 1)", ten.struck(0, 1), NONE);
        ten.strike(8);
        due("struck(0, 1)", ten.struck(0, 1), 0b1111111110);
    }

    private static void takenAndIdle() {
        promise = "26, 27";
        WhoseWork x = under("guild 0 may do 0;guild 0 may do 0 of 0;guild 1 only do 1;guild 0 may do 1 of 2;guild 0 beside 2 do 3;guild 0 may do 3;guild 0 not do 0 of 0 from 8");
        due("takes(0, 0, 0)", x.takes(0, 0, 0), 30);
        due("takes(0, 0, 1)", x.takes(0, 0, 1), 0);
        due("takes(1, 0, 0)", x.takes(1, 0, 0), 0);
        due("takes(2, 0, 0)", x.takes(2, 0, 0), 0);
        due("takes(2, 0, 1)", x.takes(2, 0, 1), 10);
        due("takes(2, 1, 0)", x.takes(2, 1, 0), 40);
        due("takes(2, 1, 1)", x.takes(2, 1, 1), 0);
        due("takes(5, 0, 0)", x.takes(5, 0, 0), 0);
        due("takes(6, 0, 1)", x.takes(6, 0, 1), 2);
        due("takes(6, 1, 1)", x.takes(6, 1, 1), 0);
        due("takes(7, 0, 0)", x.takes(7, 0, 0), UNKNOWN);
        due("takes(-1, 0, 0)", x.takes(-1, 0, 0), UNKNOWN);
        due("takes(0, 6, 0)", x.takes(0, 6, 0), UNKNOWN);
        due("takes(0, -1, 2)", x.takes(0, -1, 2), UNKNOWN);
        due("takes(0, 0, 2)", x.takes(0, 0, 2), OUTSIDE);
        due("takes(0, 0, -1)", x.takes(0, 0, -1), OUTSIDE);
        // 1 says again what 0 says, 3 is shut out by 2, 4 is hidden by 5; 5 struck leaves it beside 2 only
        due("idle()", x.idle(), 2 | 8 | 16);
        due("count(0)", x.count(0), 7);
        x = under("guild 0 not all;grant 1 all;grant 1 do 1;guild 0 beside 1 do 5;guild 0 beside 2 do 5");
        due("idle()", x.idle(), 1 | 4 | 8);
        x = under("guild 0 beside 1 do 5;guild 0 beside 2 do 5 of 3 from 9");
        due("idle()", x.idle(), 0);
        due("takes(1, 0, 0)", x.takes(1, 0, 0), 0);
        due("takes(1, 0, 1)", x.takes(1, 0, 1), 0);
        String eight = "guild 0 may all;".repeat(7) + "guild 0 may all";
        x = under(eight, eight, eight.substring(0, 63));
        due("idle()", x.idle(), (1 << 20) - 1);
    }

    private static void seizing() {
        promise = "28, 29";
        WhoseWork x = new WhoseWork();
        due("right(0)", x.right(0), UNKNOWN);
        due("seize(0, 0, 0)", x.seize(0, 0, 0), 1);
        due("seize(0, 0, 1)", x.seize(0, 0, 1), OUTSIDE);
        due("seize(0, 0, -1)", x.seize(0, 0, -1), OUTSIDE);
        due("seize(6, 240, -1)", x.seize(6, 240, -1), UNKNOWN);
        due("seize(0, 240, 0)", x.seize(0, 240, 0), UNKNOWN);
        due("seize(0, -1, 0)", x.seize(0, -1, 0), UNKNOWN);
        due("seize(-1, 0, 0)", x.seize(-1, 0, 0), UNKNOWN);
        due("right(0)", x.right(0), 1);
        due("right(-1)", x.right(-1), NONE);
        due("right(-2)", x.right(-2), UNKNOWN);
        due("right(1)", x.right(1), UNKNOWN);
        tell(x, "guild 0 may do 0;guild 0 not of 0;guild 0 beside 1 from 5");
        x.bounds();
        due("seize(0, 0, 2)", x.seize(0, 0, 2), 2);
        due("seize(0, 5, 3)", x.seize(0, 5, 3), 3);
        due("seize(0, 0, 1)", x.seize(0, 0, 1), 4);
        due("seize(0, 0, 4)", x.seize(0, 0, 4), OUTSIDE);
        due("right(0)", x.right(0), 1);
        due("right(1)", x.right(1), 1);
        due("right(2)", x.right(2), 0);
        due("right(3)", x.right(3), 0);
        due("right(-1)", x.right(-1), 2);
        // by the first so many of those there are now
        due("strike(0)", x.strike(0), 2);
        due("right(3)", x.right(3), 1);
        due("right(2)", x.right(2), 0);
        due("strike(1)", x.strike(1), 1);
        due("right(2)", x.right(2), 1);
        due("right(-1)", x.right(-1), NONE);
        tell(x, "grant 0 all");
        x.bounds();
        due("right(1)", x.right(1), 0);
        due("right(3)", x.right(3), 1);
        due("right(-1)", x.right(-1), 1);
        for (int i = 5; i <= 16; i++) {
            due("seize(5, 239, 0)", x.seize(5, 239, 0), i);
        }
        due("seize(5, 239, 0)", x.seize(5, 239, 0), FULL);
        due("seize(5, 239, 3)", x.seize(5, 239, 3), OUTSIDE);
        due("count(2)", x.count(2), 16);
        due("right(15)", x.right(15), 1);
        due("right(16)", x.right(16), UNKNOWN);
        due("right(HIGH)", x.right(HIGH), UNKNOWN);
        due("right(LOW)", x.right(LOW), UNKNOWN);
        WhoseWork y = new WhoseWork();
        for (int i = 0; i < 16; i++) {
            y.seize(i % 6, i, 0);
        }
        due("right(-1), all sixteen being right", y.right(-1), NONE);
    }

    private static void yearAndCount() {
        promise = "30, 31, 32";
        WhoseWork x = under("guild 0 may do 0;guild 1 beside 0 all;guild 2 not all");
        due("year(240)", x.year(240), UNKNOWN);
        due("year(-1)", x.year(-1), UNKNOWN);
        due("year(0)", x.year(0), 1);
        due("year(0)", x.year(0), 2);
        due("year(239)", x.year(239), 3);
        due("yearly(0)", x.yearly(0), 2);
        due("yearly(1)", x.yearly(1), 3);
        due("yearly(2)", x.yearly(2), 0);
        due("yearly(6)", x.yearly(6), UNKNOWN);
        due("yearly(-1)", x.yearly(-1), UNKNOWN);
        for (int i = 4; i <= 24; i++) {
            due("year(1)", x.year(1), i);
        }
        due("year(1)", x.year(1), FULL);
        due("year(240)", x.year(240), UNKNOWN);
        due("yearly(0)", x.yearly(0), 23);
        x.strike(0);
        due("yearly(0)", x.yearly(0), 0);
        tell(x, "grant");
        x.seize(0, 0, 0);
        for (int thing = 0; thing < 6; thing++) {
            for (int i = 0; i <= thing; i++) {
                x.step(thing, 0, NONE);
            }
        }
        int[] want = {2, 5, 1, 24, 1, 2, 3, 4, 5, 6};
        for (int what = 0; what < want.length; what++) {
            due("count(" + what + ")", x.count(what), want[what]);
        }
        due("count(10)", x.count(10), OUTSIDE);
        due("count(-1)", x.count(-1), OUTSIDE);
        due("count(LOW)", x.count(LOW), OUTSIDE);
        due("count(HIGH)", x.count(HIGH), OUTSIDE);
    }
}
