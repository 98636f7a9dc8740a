/** The boundary cases of THE TEXT: promises 2 to 5, and what the terms say of LINES, TOKENS and FAULTS. */
public final class TextEdgesTest {
    private static final int NONE = Sheet.NONE, OUTSIDE = Sheet.OUTSIDE, NOT = Sheet.NOT, FULL = Sheet.FULL;
    private static final String ALL = "grant 0 all";
    private static final Sheet sheet = new Sheet();

    public static void main(String[] args) {
        howManyBytesACall();
        placesOfBytes();
        bytesAtMost();
        erasing();
        emptyText();
        linesAtMost();
        semicolonsBetween();
        wordsOfLines();
        reachOfOneOrMore();
        partsLeftOut();
        numbersInBounds();
        numbersOfOneDigit();
        guildsUnlike();
        depthsInOrder();
        tokensOfEveryByte();
        blanksBetween();
        endTooSoon();
        firstFault();
        faultyTextIsNoBounds();
        boundsAtMost();
        faultAheadOfFull();
        textIsEmptyThen();
        sheet.end();
    }

    private static void dueFault(String text, int want) {
        WhoseWork x = Sheet.told(text);
        sheet.due("fault() of '" + text + "'", x.fault(), want);
        sheet.due("count(1) behind fault() of '" + text + "'", x.count(1), text.length());
        int lines = text.split(";", -1).length;
        sheet.due("bounds() of '" + text + "'", x.bounds(), want == NONE ? lines : NOT);
    }

    private static void howManyBytesACall() {
        sheet.sentence("n (1 .. 8) bytes more .. OUTSIDE");
        for (int n = 1; n <= 8; n++) {
            sheet.due("write(0, " + n + ")", new WhoseWork().write(0, n), n);
        }
        for (int n : new int[] {0, 9, -1, 10, 16, 160, 161, 256 + 1, Sheet.LOW, Sheet.LOW + 1, Sheet.HIGH}) {
            sheet.refusedAlways("write(0, " + n + ")", OUTSIDE, x -> x.write(0x2020202020202020L, n));
        }
    }

    private static void placesOfBytes() {
        sheet.sentence("byte i being bytes >> 8 i & 255");
        long blanks = 0x2020202020202020L;
        for (int i = 0; i < 8; i++) {
            for (int sign : new int[] {0, 1, 33, 127, 128, 160, 200, 255}) {
                long bytes = blanks & ~(255L << 8 * i) | (long) sign << 8 * i;
                WhoseWork x = new WhoseWork();
                sheet.due("write(" + bytes + ", 8)", x.write(bytes, 8), 8);
                sheet.due("fault() of byte " + sign + " at " + i, x.fault(), i);
            }
        }
        // those from the n-th on are none of the text's
        for (int n = 1; n < 8; n++) {
            WhoseWork x = new WhoseWork();
            long bytes = blanks & (1L << 8 * n) - 1 | -1L << 8 * n;
            sheet.due("write(" + bytes + ", " + n + ")", x.write(bytes, n), n);
            sheet.due("fault() behind " + n + " blanks", x.fault(), n);
            x.write(Sheet.packed("grant 0 "), 8);
            x.write(Sheet.packed("all"), 3);
            sheet.due("fault() of the rest", x.fault(), NONE);
        }
        // one byte a call and eight a call tell the same
        WhoseWork x = new WhoseWork();
        for (int i = 0; i < ALL.length(); i++) {
            sheet.due("write, byte by byte", x.write(ALL.charAt(i), 1), i + 1);
        }
        sheet.due("bounds()", x.bounds(), 1);
    }

    private static WhoseWork withBytes(int many) {
        return Sheet.told(" ".repeat(many));
    }

    private static void bytesAtMost() {
        sheet.sentence("a row of bytes, 160 at most .. FULL");
        for (int n = 1; n <= 8; n++) {
            sheet.due("write(0, " + n + ") behind 160 - n", withBytes(160 - n).write(0, n), 160);
            sheet.due("write(0, " + n + ") behind 159 - n", withBytes(159 - n).write(0, n), 159);
            for (int had = 161 - n; had <= 160; had++) {
                WhoseWork x = withBytes(had);
                sheet.due("write(0, " + n + ") behind " + had, x.write(0, n), FULL);
                sheet.due("count(1) behind that", x.count(1), had);
                sheet.due("erase() behind that", x.erase(), had);
            }
            int many = n;
            sheet.refused(State.CRAMMED, "write(.., " + n + ")", FULL, x -> x.write(Sheet.packed("grant 0 "), many));
        }
        // not a part of the eight bytes is told, if one of them is too many
        State short7 = new State("a text of 153 bytes", " all", x -> Sheet.tell(x, "grant 0" + " ".repeat(146)));
        sheet.refused(short7, "write(.., 8)", FULL, x -> x.write(Sheet.packed("do 1 of "), 8));
        sheet.due("write(.., 7) behind that", short7.made().write(Sheet.packed("    all"), 7), 160);
        // all 160 are read
        String whole = ALL + " ".repeat(145) + ";" + " ".repeat(3);
        dueFault(whole, 160);
        dueFault("grant 0" + " ".repeat(150) + "all", NONE);
        dueFault("grant 0" + " ".repeat(150) + "alz", 157);
        dueFault(ALL + " ".repeat(148) + ".", 159);
        dueFault(" ".repeat(159) + ".", 159);

        sheet.sentence("FULL, outside ahead of it: the first of these that fits");
        for (int n : new int[] {0, 9, -1, Sheet.HIGH}) {
            sheet.refused(State.CRAMMED, "write(0, " + n + ") behind 160", OUTSIDE, x -> x.write(0, n));
        }
        // room again
        WhoseWork x = State.CRAMMED.made();
        sheet.due("erase()", x.erase(), 160);
        sheet.due("write(0, 8)", x.write(0, 8), 8);
    }

    private static void erasing() {
        sheet.sentence("THE TEXT is empty: how many bytes it had");
        for (int many : new int[] {0, 1, 7, 8, 9, 159, 160}) {
            WhoseWork x = withBytes(many);
            sheet.due("erase() of " + many, x.erase(), many);
            sheet.due("erase() again", x.erase(), 0);
            sheet.due("count(1)", x.count(1), 0);
            sheet.due("fault()", x.fault(), 0);
        }
        // nothing of the old text is behind the new one
        WhoseWork x = Sheet.told("grant 5 do 5 of 3 from 9");
        x.erase();
        Sheet.tell(x, "grant 1");
        sheet.due("fault()", x.fault(), 7);
        Sheet.tell(x, " all");
        sheet.due("bounds()", x.bounds(), 1);
        sheet.due("bound(0, 1)", x.bound(0, 1), 1);
        sheet.due("bound(0, 3)", x.bound(0, 3), NONE);
        sheet.due("bound(0, 5)", x.bound(0, 5), 0);
        // it is the text alone that is empty then
        WhoseWork y = State.SOME.made();
        int[] had = {8, 0, 4, 5, 3, 1, 8, 0, 0, 0};
        y.erase();
        for (int what = 0; what <= 9; what++) {
            sheet.due("count(" + what + ") behind erase()", y.count(what), had[what]);
        }
    }

    private static void emptyText() {
        sheet.sentence("or at the end, if it comes too soon: an empty text");
        WhoseWork x = new WhoseWork();
        sheet.due("fault()", x.fault(), 0);
        sheet.refused(State.EMPTY, "bounds()", NOT, WhoseWork::bounds);
        for (int many : new int[] {1, 8, 159, 160}) {
            dueFault(" ".repeat(many), many);
        }
    }

    private static void linesAtMost() {
        sheet.sentence("LINES .. 8 at most");
        for (int many = 1; many <= 8; many++) {
            dueFault(Sheet.lines(ALL, many), NONE);
        }
        String eight = Sheet.lines(ALL, 8);
        dueFault(eight + ";", 95);
        dueFault(eight + ";" + ALL, 95);
        dueFault(eight + "  ;  ", 97);
        dueFault(eight + ";;", 95);
        dueFault(eight + "  ", NONE);
        dueFault(eight + " all", 96);
        dueFault(Sheet.lines(ALL, 9), 95);
        dueFault(Sheet.lines(ALL, 13), 95);
        dueFault(Sheet.lines("grant 0 do 1", 8) + ";", 103);
        // a fault ahead of the eighth ; is the first
        dueFault("grant 0 al" + (";" + ALL).repeat(8), 8);
        State nine = new State("nine lines", "", x -> Sheet.tell(x, Sheet.lines(ALL, 9)));
        sheet.refused(nine, "bounds()", NOT, WhoseWork::bounds);
    }

    private static void semicolonsBetween() {
        sheet.sentence("LINES with ; (59) between");
        dueFault(";", 0);
        dueFault(" ;", 1);
        dueFault(";" + ALL, 0);
        dueFault(ALL + ";", 12);
        dueFault(ALL + "; ", 13);
        dueFault(ALL + ";;" + ALL, 12);
        dueFault(ALL + "; ;" + ALL, 13);
        dueFault(ALL + ";" + ALL, NONE);
        dueFault(ALL + " ; " + ALL, NONE);
        dueFault(ALL + " " + ALL, 12);
        dueFault(ALL + ":" + ALL, 11);
        dueFault(ALL + "," + ALL, 11);
        dueFault("grant 0 do 1" + ALL, 12);
        dueFault("grant 0;all", 7);
        dueFault("grant;0 all", 5);
        dueFault("grant 0 do;1", 10);
        dueFault("grant 0 do 1;of 1", 13);
    }

    private static void wordsOfLines() {
        sheet.sentence("guild G may R. guild G not R. guild G only R. guild G beside H R. grant G R.");
        String[] sorts = {"guild 1 may", "guild 1 not", "guild 1 only", "guild 1 beside 2", "grant 1"};
        for (int sort = 0; sort < sorts.length; sort++) {
            dueFault(sorts[sort] + " all", NONE);
            dueFault(sorts[sort] + " of 2", NONE);
            dueFault(sorts[sort] + ";", sorts[sort].length());
            WhoseWork x = Sheet.under(sorts[sort] + " all");
            sheet.due("the sort of '" + sorts[sort] + "'", x.bound(0, 0), sort);
            sheet.due("the guild of '" + sorts[sort] + "'", x.bound(0, 1), 1);
            sheet.due("the other guild of '" + sorts[sort] + "'", x.bound(0, 2), sort == 3 ? 2 : NONE);
        }
        // a word a letter short, a letter long, or another one
        String line = "guild 1 beside 2 do 3 of 1 from 4 to 7";
        for (String word : new String[] {"guild", "beside", "do", "of", "from", "to"}) {
            int at = line.indexOf(word);
            for (String bad : new String[] {word + "s", "s" + word, word.substring(1), word.substring(0, word.length() - 1), "and"}) {
                dueFault(line.substring(0, at) + bad + line.substring(at + word.length()), at);
            }
        }
        for (String word : new String[] {"may", "not", "only"}) {
            for (String bad : new String[] {word + "s", "s" + word, word.substring(1), word.substring(0, word.length() - 1), "grant", "guild"}) {
                dueFault("guild 1 " + bad + " all", 8);
            }
        }
        for (String bad : new String[] {"al", "ll", "alll", "alls", "may", "guild", "grant", "1", "0"}) {
            dueFault("grant 1 " + bad, 8);
        }
        for (String bad : new String[] {"gran", "rant", "grants", "ggrant", "all", "may", "do", "1"}) {
            dueFault(bad + " 1 all", 0);
        }
        // the small letters alone
        dueFault("Guild 1 may all", 0);
        dueFault("guilD 1 may all", 0);
        dueFault("guild 1 May all", 8);
        dueFault("guild 1 may aLl", 12);
        // a grant has no sort, a guild needs one; only beside has another guild
        dueFault("grant 1 may all", 8);
        dueFault("guild 1 all", 8);
        dueFault("guild 1 may 2 all", 12);
        dueFault("guild 1 only 2 all", 13);
        dueFault("guild 1 beside all", 15);
        dueFault("guild 1 may not all", 12);
    }

    private static final String[] PARTS = {"do 1", "of 1", "from 1", "to 1", "all"};

    private static void reachOfOneOrMore() {
        sheet.sentence("R: all, or one or more of: do V, of S, from D, to D, in this order, each once at most");
        rowsOfParts("guild 0 not", -1, false, 0);
    }

    /** Every row of parts: a part may follow one that is ahead of it in the order, and all stands by itself. */
    private static void rowsOfParts(String text, int last, boolean any, int depth) {
        sheet.due("'" + text + "' is as due", Sheet.told(text).fault(), any ? NONE : text.length());
        for (int part = 0; part < PARTS.length && depth < 5; part++) {
            String more = text + " " + PARTS[part];
            boolean fits = part == 4 ? !any : part > last && last < 4;
            if (fits) {
                rowsOfParts(more, part, true, depth + 1);
            } else {
                dueFault(more, text.length() + 1);
                dueFault(more + ";grant 0 all", text.length() + 1);
            }
        }
    }

    private static void partsLeftOut() {
        sheet.sentence("from 0, to 9 without; of VERBS one or any, of STUFFS one or any");
        String[] reaches = {"all", "do 5", "of 3", "from 9", "to 0", "do 0 from 0", "of 0 to 9", "from 4 to 4", "do 2 of 1 from 3 to 8"};
        int[][] due = {{-1, -1, 0, 9}, {5, -1, 0, 9}, {-1, 3, 0, 9}, {-1, -1, 9, 9}, {-1, -1, 0, 0}, {0, -1, 0, 9}, {-1, 0, 0, 9},
            {-1, -1, 4, 4}, {2, 1, 3, 8}};
        for (int i = 0; i < reaches.length; i++) {
            // behind a line that leaves nothing out, so that nothing of it is left
            WhoseWork x = Sheet.under("guild 3 beside 2 do 4 of 2 from 5 to 6;grant 1 " + reaches[i], "grant 1 " + reaches[i]);
            for (int bound = 1; bound <= 2; bound++) {
                sheet.due("the other guild", x.bound(bound, 2), NONE);
                for (int what = 3; what <= 6; what++) {
                    sheet.due("bound(" + bound + ", " + what + ") of '" + reaches[i] + "'", x.bound(bound, what), due[i][what - 3]);
                }
            }
        }
    }

    /** For each digit, whether it can stand behind a text. */
    private static void digits(String ahead, String behind, int least, int most) {
        for (int digit = 0; digit <= 9; digit++) {
            dueFault(ahead + digit + behind, digit >= least && digit <= most ? NONE : ahead.length());
        }
    }

    private static void numbersInBounds() {
        sheet.sentence("G, H GUILDS .. V, S, D numbers as told .. a number out of its bounds");
        digits("guild ", " may all", 0, 5);
        digits("guild ", " not do 1", 0, 5);
        digits("guild ", " only of 1", 0, 5);
        digits("grant ", " all", 0, 5);
        digits("guild 0 beside ", " all", 1, 5);
        digits("guild 5 beside ", " all", 0, 4);
        digits("grant 0 do ", "", 0, 5);
        digits("grant 0 of ", "", 0, 3);
        digits("grant 0 from ", "", 0, 9);
        digits("grant 0 to ", "", 0, 9);
        digits("grant 0 do ", " of 3 from 9 to 9", 0, 5);
        digits("grant 0 do 5 of ", " from 0", 0, 3);
        digits("grant 0 do 5 of 3 from ", " to 9", 0, 9);
        digits("grant 0 do 5 of 3 from 0 to ", "", 0, 9);
        digits("grant 0 all;guild ", " may all", 0, 5);
    }

    private static void numbersOfOneDigit() {
        sheet.sentence("numbers of 1 digit .. or of more digits, also");
        String[] ahead = {"guild ", "grant ", "guild 3 beside ", "grant 0 do ", "grant 0 of ", "grant 0 from ", "grant 0 to "};
        String[] behind = {" may all", " all", " all", " to 9", " to 9", " to 9", ""};
        for (int i = 0; i < ahead.length; i++) {
            dueFault(ahead[i] + "1" + behind[i], NONE);
            for (String number : new String[] {"00", "01", "10", "11", "001", "100", "99", "0".repeat(60), "4294967297"}) {
                dueFault(ahead[i] + number + behind[i], ahead[i].length());
            }
            // two numbers, one too many
            dueFault(ahead[i] + "1 1" + behind[i], ahead[i].length() + 2);
            // no number there, or one with a sign
            for (String bad : new String[] {"x", "all", "-1", "+1", ".1", "may"}) {
                dueFault(ahead[i] + bad + behind[i], ahead[i].length());
            }
        }
    }

    private static void guildsUnlike() {
        sheet.sentence("G, H GUILDS, unlike");
        for (int g = 0; g < 6; g++) {
            for (int h = 0; h < 6; h++) {
                dueFault("guild " + g + " beside " + h + " all", g == h ? 15 : NONE);
            }
        }
    }

    private static void depthsInOrder() {
        sheet.sentence("a D behind to not below that behind from");
        for (int from = 0; from <= 9; from++) {
            for (int to = 0; to <= 9; to++) {
                dueFault("grant 0 from " + from + " to " + to, to < from ? 18 : NONE);
            }
        }
        // that behind the from of the line ahead does not count
        dueFault("grant 0 from 9;grant 0 to 0", NONE);
    }

    private static void tokensOfEveryByte() {
        sheet.sentence("TOKEN (a row of small letters, a row of digits, any other byte)");
        for (int sign = 0; sign < 256; sign++) {
            char c = (char) sign;
            boolean letter = c >= 'a' && c <= 'z';
            boolean digit = c >= '0' && c <= '9';
            dueByte("" + c, c == ' ' ? 1 : 0);
            dueByte(ALL + c, c == ' ' ? NONE : c == ';' ? 12 : letter ? 8 : 11);
            dueByte("grant " + c + " all", c >= '0' && c <= '5' ? NONE : c == ' ' ? 8 : 6);
            dueByte("grant 0" + c + "all", c == ' ' ? NONE : digit ? 6 : 7);
            dueByte("grant" + c + "0 all", c == ' ' ? NONE : letter ? 0 : 5);
            dueByte("gran" + c + " 0 all", c == 't' ? NONE : 0);
            dueByte(c + "grant 0 all", c == ' ' ? NONE : 0);
            dueByte("grant 0 do 1" + c + "of 2", c == ' ' ? NONE : digit ? 11 : c == ';' ? 13 : 12);
        }
    }

    private static void dueByte(String text, int want) {
        WhoseWork x = Sheet.told(text);
        int at = 0;
        while (at < text.length() - 1 && text.charAt(at) < 127 && text.charAt(at) > 32) {
            at++;
        }
        sheet.due("fault() of '" + text + "', whose sign at " + at + " is " + (int) text.charAt(at), x.fault(), want);
    }

    private static void blanksBetween() {
        sheet.sentence("blanks (32) between");
        dueFault("guild 1 beside 2 do 3 of 1 from 4 to 7", NONE);
        dueFault("guild1beside2do3of1from4to7", NONE);
        dueFault("   guild   1   beside   2   do   3   of   1   from   4   to   7   ", NONE);
        dueFault("grant0all;grant1all", NONE);
        // two words in one are another word
        dueFault("guild 1 mayall", 8);
        dueFault("guild 1 maydo 1", 8);
        dueFault("gu ild 1 may all", 0);
        for (int blank : new int[] {0, 9, 10, 11, 12, 13, 31, 33, 127, 160}) {
            dueFault("grant" + (char) blank + "1 all", 5);
            dueFault("grant 1" + (char) blank + "all", 7);
        }
    }

    private static void endTooSoon() {
        sheet.sentence("or at the end, if it comes too soon: the length");
        String text = "guild 1 beside 2 do 3 of 1 from 4 to 7;grant 0 all";
        int[] due = {
            0, 0, 0, 0, 0, 5, 6, 7, 8, 8, 8, 8, 8, 8, 14, 15, 16, 17, 17, 19, 20, NONE, NONE, 22, 24, 25, NONE, NONE,
            27, 27, 27, 31, 32, NONE, NONE, 34, 36, 37, NONE, 39, 39, 39, 39, 39, 44, 45, 46, 47, 47, 47, NONE
        };
        for (int length = 0; length <= text.length(); length++) {
            dueFault(text.substring(0, length), due[length]);
        }
        for (String cut : new String[] {"guild", "guild 1", "guild 1 may", "guild 1 beside", "guild 1 beside 2", "grant", "grant 1",
            "grant 1 do", "grant 1 do 1 of", "grant 1 from", "grant 1 from 1 to", "grant 1 all;"}) {
            for (int blanks = 0; blanks < 4; blanks++) {
                dueFault(cut + " ".repeat(blanks), cut.length() + blanks);
            }
        }
    }

    private static void firstFault() {
        sheet.sentence("A FAULT is at the first TOKEN .. that cannot stand there");
        dueFault("guild 9 mey al", 6);
        dueFault("guild 1 mey al", 8);
        dueFault("guild 1 may al", 12);
        dueFault("grant 7 all;grant 8 all", 6);
        dueFault("grant 1 all;grant 8 all;", 18);
        dueFault("grant 1 do 9 of 9", 11);
        dueFault("grant 1 from 5 to 4 to 3", 18);
        sheet.unchanged(State.EMPTY, "fault()", WhoseWork::fault);
        sheet.unchanged(State.SOME, "fault()", WhoseWork::fault);
        sheet.unchanged(State.CRAMMED, "fault()", WhoseWork::fault);
    }

    private static void faultyTextIsNoBounds() {
        sheet.sentence("NOT: a FAULT; nothing changes");
        sheet.refused(State.SOME, "bounds()", NOT, WhoseWork::bounds);
        // not even the lines ahead of the fault
        State late = new State("a fault in the last line", "o 3", x -> {
            Sheet.enact(x, "guild 2 may do 2");
            Sheet.tell(x, Sheet.lines(ALL, 7) + ";grant 1 d");
        });
        sheet.refused(late, "bounds()", NOT, WhoseWork::bounds);
        WhoseWork x = late.made();
        x.bounds();
        Sheet.tell(x, "o 3");
        sheet.due("bounds() of the whole", x.bounds(), 9);
    }

    private static State withBoundsAndText(int bounds, int lines) {
        return new State(bounds + " bounds and a text of " + lines, "", x -> {
            for (int left = bounds; left > 0; left -= Math.min(left, 8)) {
                Sheet.enact(x, Sheet.lines("guild 1 may of 1", Math.min(left, 8)));
            }
            Sheet.tell(x, Sheet.lines("grant 2 do 3", lines));
        });
    }

    private static void boundsAtMost() {
        sheet.sentence("BOUNDS are a row of 20 at most .. FULL: there would be more than 20");
        for (int lines = 1; lines <= 8; lines++) {
            for (int had = 18 - lines; had <= 20; had++) {
                State state = withBoundsAndText(had, lines);
                if (had + lines > 20) {
                    sheet.refused(state, "bounds()", FULL, WhoseWork::bounds);
                } else {
                    WhoseWork x = state.made();
                    sheet.due("in " + state.name() + ", bounds()", x.bounds(), had + lines);
                    sheet.due("bound of the last", x.bound(had + lines - 1, 1), 2);
                    sheet.due("bound behind the last", x.bound(had + lines, 1), Sheet.UNKNOWN);
                    sheet.due("why", x.why(2, 130), had);
                }
            }
        }
        sheet.refused(State.CRAMMED, "bounds()", FULL, WhoseWork::bounds);
        // room again: by one struck out for each line too many
        WhoseWork x = withBoundsAndText(20, 2).made();
        sheet.due("bounds()", x.bounds(), FULL);
        sheet.due("strike(0)", x.strike(0), 19);
        sheet.due("bounds()", x.bounds(), FULL);
        sheet.due("strike(0)", x.strike(0), 18);
        sheet.due("bounds()", x.bounds(), 20);
        sheet.due("bound(19, 0)", x.bound(19, 0), 4);
        sheet.due("bound(17, 0)", x.bound(17, 0), 0);
    }

    private static void faultAheadOfFull() {
        sheet.sentence("NOT ahead of FULL: the first of these that fits");
        State both = new State("20 bounds and a fault", "ll", x -> {
            Sheet.enact(x, Sheet.lines(ALL, 8), Sheet.lines(ALL, 8), Sheet.lines(ALL, 4));
            Sheet.tell(x, "grant 0 all;grant 1 a");
        });
        sheet.refused(both, "bounds()", NOT, WhoseWork::bounds);
        State empty = new State("20 bounds and no text", ALL, x ->
            Sheet.enact(x, Sheet.lines(ALL, 8), Sheet.lines(ALL, 8), Sheet.lines(ALL, 4)));
        sheet.refused(empty, "bounds()", NOT, WhoseWork::bounds);
    }

    private static void textIsEmptyThen() {
        sheet.sentence("THE TEXT's LINES are BOUNDS, too, and it is empty then");
        WhoseWork x = Sheet.told(ALL);
        sheet.due("bounds()", x.bounds(), 1);
        sheet.due("count(1)", x.count(1), 0);
        sheet.due("fault()", x.fault(), 0);
        sheet.due("bounds() again", x.bounds(), NOT);
        sheet.due("count(0)", x.count(0), 1);
        sheet.due("erase()", x.erase(), 0);
        sheet.due("write", Sheet.tell(x, "guild 5 not of 2;guild 4 beside 3 all"), 37);
        sheet.due("bounds()", x.bounds(), 3);
        int[][] due = {{4, 0, -1, -1, -1, 0, 9}, {1, 5, -1, -1, 2, 0, 9}, {3, 4, 3, -1, -1, 0, 9}};
        for (int bound = 0; bound < 3; bound++) {
            for (int what = 0; what < 7; what++) {
                sheet.due("bound(" + bound + ", " + what + ")", x.bound(bound, what), due[bound][what]);
            }
        }
        WhoseWork full = Sheet.told(State.FULL_TEXT);
        sheet.due("bounds() of 160 bytes", full.bounds(), 8);
        sheet.due("write(0, 8)", full.write(0, 8), 8);
    }
}
