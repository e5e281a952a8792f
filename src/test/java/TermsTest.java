/** The Terms, sentence by sentence: each quote is followed by what would fail if the sentence were broken. */
public final class TermsTest {
    private static final int MIN = Integer.MIN_VALUE;
    private static final int MAX = Integer.MAX_VALUE;
    private static final String FAN = "fan ribs 2 wide 1 price 1 opens even";
    private static final int AT = FAN.length() + 1;
    // Front: mno, agmno, abghmno, abcghimno. Back: def, pjdef, pqjkdef, pqrjkldef.
    private static final String EVEN = "fan ribs 3 wide 3 price 7 opens even;rib abc def;rib ghi jkl;rib mno pqr";
    // Front: ef, aef, abef, abcef, abcdef. Back: gh, gh, gh, igh, ijgh.
    private static final String LEFT = "fan ribs 3 wide 2 price 1 opens left;rib ab gh;rib cd ij;rib ef kl";

    private TermsTest() {
    }

    public static void main(String[] args) {
        tape();
        tokens();
        fanLine();
        ribLine();
        wordAndWishLines();
        seenLine();
        beatLine();
        anyWords();
        faultOrder();
        faultForm();
        faultsAgainAndBounds();
        faultsManyLacksBeyond();
        numbers();
        openings();
        frontAndBack();
        brokenLeftOut();
        reading();
        keeping();
        mends();
        losesAndTreaty();
        severAndPack();
        sureAndClash();
        fitsAndAsk();
        smears();
        acts();
        undoAndImages();
        trouble();
        constants();
        Document.wholeIsQuoted("Terms");
        Check.end();
    }

    private static void quote(String sentence) {
        Document.quote("Terms", sentence);
    }

    private static FanParts fan(String text) {
        return Check.made(text);
    }

    private static void fine(String line) {
        FanParts x = new FanParts();
        Check.answered(x, "fan of " + line, Check.fanOf(x, FAN + ";" + line), 2);
    }

    /** A FAULT in what follows a FAN of two ribs, at a place of that. */
    private static void line(String line, int fault, int place) {
        Check.faulty(FAN + ";" + line, fault, AT + place);
    }

    private static void openingsOf(String text, int openings) {
        FanParts x = new FanParts();
        Check.answered(x, "fan of " + text, Check.fanOf(x, text), openings);
    }

    // ---- I

    private static void tape() {
        quote("I. THE TEXT of a FAN (THE TAPE has 900 bytes;");
        // The last WORD ends with the tape's last byte.
        String last = ";rib x y";
        String text = FAN + " ".repeat(900 - FAN.length() - last.length()) + last;
        FanParts x = fan(text);
        Check.same("cell of the last bytes", x.cell(1, 0, 0), 24);
        Check.faulty(text.substring(0, 899) + "?", 1, 899);

        quote("blanks, 32, part TOKENS and mean nothing else;");
        openingsOf("   fan   ribs   2 wide 1 price   1 opens   even   ;   rib   a   b   ;   beat   0   ,   1   ", 2);
        openingsOf("fan ribs2wide1price1opens even;rib a b;beat0,1", 2);
        Check.faulty("fanribs 2", 1, 0);
        Check.faulty("fan rib s 2", 1, 4);
        Check.faulty("fan ribs 1 0 wide 1", 4, 9);
        Check.faulty("fan ribs 2 2 wide 1", 1, 11);
        for (int sign : new int[] {0, 9, 10, 13, 31, 33, 127, 128, 160, 255}) {
            Check.faulty(FAN + (char) sign + ";rib a b", 1, FAN.length());
        }
    }

    private static void tokens() {
        quote("TOKENS: WORDS of 1 to 8 small letters that stand together,");
        fine("word a");
        fine("word abcdefgh");
        line("word abcdefghi", 1, 5);
        line("word abcdefgh i", 1, 14);
        for (char sign : new char[] {'`', '{', 'A', 'Z', '@', '['}) {
            line("word " + sign, 1, 5);
            line("word a" + sign, 1, 6);
        }
        fine("word az");

        quote("WHOLES of 1 to 3 digits that do,");
        fine("beat 0,00,000,1,01,001");
        line("beat 0000", 1, 5);
        line("beat 1000", 1, 5);
        line("beat 999", 4, 5);
        line("beat 9", 4, 5);
        line("beat /", 1, 5);
        line("beat :", 1, 5);
        line("beat -1", 1, 5);
        line("beat +1", 1, 5);

        quote("single ones of ; ,): LINE {; LINE}. LINE, one of:");
        openingsOf(FAN, 2);
        Check.faulty(FAN + ";", 1, AT);
        Check.faulty(FAN + ";;rib a b", 1, AT);
        Check.faulty(";" + FAN, 1, 0);
        Check.faulty(FAN + ".rib a b", 1, AT - 1);
        Check.faulty(FAN + ",rib a b", 1, AT - 1);
        Check.faulty(FAN + " rib a b", 1, AT);
        line("rib a,b", 1, 5);
        line("beat 0,,1", 1, 7);
        line("beat 0;1", 1, 7);
        line("ribs a b", 1, 0);
    }

    private static void fanLine() {
        quote("fan ribs WHOLE wide WHOLE price WHOLE opens HOW (2 .. 10, 1 .. 3, 0 .. 99; HOW: even, or left), ahead of all others");
        Check.faulty("fan ribs 1 wide 1 price 0 opens even", 4, 9);
        Check.faulty("fan ribs 0 wide 1 price 0 opens even", 4, 9);
        Check.faulty("fan ribs 11 wide 1 price 0 opens even", 4, 9);
        Check.faulty("fan ribs 2 wide 0 price 0 opens even", 4, 16);
        Check.faulty("fan ribs 2 wide 4 price 0 opens even", 4, 16);
        Check.faulty("fan ribs 2 wide 1 price 100 opens even", 4, 24);
        Check.faulty("fan ribs 2 wide 1 price 0 opens right", 1, 32);
        Check.faulty("fan ribs 2 wide 1 price 0 opens 1", 1, 32);
        Check.faulty("fan wide 1 ribs 2 price 0 opens even", 1, 4);
        Check.faulty("fan ribs 2 price 0 wide 1 opens even", 1, 11);
        for (int ribs : new int[] {2, 3, 9, 10}) {
            for (int wide = 1; wide <= 3; wide++) {
                String sizes = "fan ribs " + ribs + " wide " + wide;
                openingsOf(sizes + " price 0 opens even", wide + 1);
                openingsOf(sizes + " price 99 opens left", wide * (ribs - 1) + 1);
            }
        }
        Check.faulty("beat 0;" + FAN, 6, 0);
    }

    private static void ribLine() {
        quote("rib WORD WORD, behind it perhaps broken (of just as many letters as wide each: its front, its back;");
        FanParts x = fan("fan ribs 3 wide 2 price 1 opens even;rib ab cd broken;rib ef gh");
        Check.same("its front", x.cell(0, 0, 1), 1);
        Check.same("its back", x.cell(1, 0, 1), 3);
        Check.same("broken", x.broken(0), 1);
        Check.same("not broken", x.broken(1), 0);
        String two = "fan ribs 3 wide 2 price 1 opens even;";
        Check.faulty(two + "rib a bc", 4, two.length() + 4);
        Check.faulty(two + "rib abc de", 4, two.length() + 4);
        Check.faulty(two + "rib ab c", 4, two.length() + 7);
        Check.faulty(two + "rib ab cde", 4, two.length() + 7);
        Check.faulty(two + "rib ab broken", 4, two.length() + 7);
        Check.faulty(two + "rib ab", 1, two.length() + 6);
        Check.faulty(two + "rib ab;", 1, two.length() + 6);
        Check.faulty(two + "rib", 1, two.length() + 3);
        Check.faulty(two + "rib ab cd broke", 1, two.length() + 10);
        Check.faulty(two + "rib ab cd broken broken", 1, two.length() + 17);

        quote("as many LINES as ribs at most: the ribs, one behind the other; those that aren't told are bare)");
        x = fan("fan ribs 3 wide 2 price 1 opens even;rib ab cd broken;word a;rib ef gh;beat 0");
        Check.same("the second rib", x.cell(0, 1, 0), 4);
        Check.same("the third: bare", x.cell(0, 2, 0), -2);
        Check.same("the third: bare behind", x.cell(1, 2, 1), -2);
        Check.same("the third: not broken", x.broken(2), 0);
        fine("rib a b;rib a b");
        line("rib a b;rib a b;rib a b", 5, 16);
        String ten = "fan ribs 10 wide 1 price 1 opens even" + ";rib a b".repeat(10);
        Check.same("ten ribs", fan(ten).painted(), 20);
        Check.faulty(ten + ";rib a b", 5, ten.length() + 1);
        // What an earlier FAN told of a rib is gone.
        x = fan(ten + ";word a;wish a front 0;seen front 0 from 0 a;beat 0");
        Check.fanOf(x, "fan ribs 10 wide 3 price 1 opens even");
        Check.same("all bare", x.painted(), 0);
        for (int what = 3; what <= 6; what++) {
            Check.same("size(" + what + ")", x.size(what), 0);
        }
        nothingIsLeft();
    }

    /** Behind FANS that tell all there can be, and behind ones with a FAULT, a FAN tells what its own text does. */
    private static void nothingIsLeft() {
        String full = "fan ribs 2 wide 2 price 9 opens left;rib ab cd broken;rib ef gh broken;word a;word ab;wish a front 0;"
            + "seen front 2 from 0 ab;seen front 2 from 0 cd;beat 0,1";
        FanParts x = fan(full);
        Check.same("a clash", x.clash(), 1);
        Check.same("packed", x.pack(1), 3);
        x.open(1);
        for (int i = 0; i < 3; i++) {
            Check.answered(x, "full", Check.fanOf(x, full), 3);
            x.open(2);
            x.pack(0);
            Check.refused(x, "full, with a FAULT", Check.fanOf(x, full + ";beat 0"), 4);
            Check.answered(x, "bare", Check.fanOf(x, "fan ribs 2 wide 2 price 1 opens even"), 3);
            int[] sizes = {2, 2, 0, 0, 0, 0, 0, 0, 0, 0, 0};
            for (int what = 0; what < sizes.length; what++) {
                Check.same("bare: size(" + what + ")", x.size(what), sizes[what]);
            }
            Check.same("bare: painted", x.painted(), 0);
            Check.same("bare: broken", x.broken(0) + x.broken(1), 0);
            Check.same("bare: clash", x.clash(), -2);
            Check.same("bare: sureCells", x.sureCells(), 0);
            Check.same("bare: pack", x.pack(0) + x.pack(1) + x.pack(2), 0);
            Check.answered(x, "other words", Check.fanOf(x, "fan ribs 2 wide 2 price 1 opens even;word b;word cd"), 3);
            Check.same("other words: pack", x.pack(2), 3);
        }
    }

    private static void wordAndWishLines() {
        quote("word WORD (up to 6), or wish WORD SIDE WHOLE (any WORD; SIDE: front, or back; an OPENING; up to 4)");
        String six = "word a;word b;word c;word d;word e;word f";
        fine(six);
        line(six + ";word g", 5, six.length() + 1);
        Check.same("six", fan(FAN + ";" + six).size(3), 6);
        String four = "wish a back 0;wish a back 0;wish a back 0;wish a back 0";
        fine(four);
        line(four + ";wish a back 0", 5, four.length() + 1);
        Check.same("four", fan(FAN + ";" + four).size(4), 4);
        fine("wish z front 0;wish zzzzzzzz back 1;wish wish front 1");
        line("wish a side 0", 1, 7);
        line("wish front 0", 1, 11);
        line("wish a front 2", 4, 13);
        fine("wish a front 1");
        Check.faulty(LEFT + ";wish a back 5", 4, LEFT.length() + 13);
        openingsOf(LEFT + ";wish a back 4", 5);
    }

    private static void seenLine() {
        quote("seen SIDE WHOLE from WHOLE WORD (an OPENING; a PLACE that shows then, if none is broken,"
            + " from which on as many as the WORD has letters do; up to 6)");
        int at = LEFT.length() + 1;
        openingsOf(LEFT + ";seen front 4 from 5 a", 5);
        Check.faulty(LEFT + ";seen front 4 from 6 a", 4, at + 18);
        openingsOf(LEFT + ";seen front 4 from 0 abcdef", 5);
        Check.faulty(LEFT + ";seen front 4 from 0 abcdefg", 7, at + 20);
        openingsOf(LEFT + ";seen front 0 from 1 a", 5);
        Check.faulty(LEFT + ";seen front 0 from 2 a", 4, at + 18);
        Check.faulty(LEFT + ";seen front 0 from 1 ab", 7, at + 20);
        openingsOf(LEFT + ";seen back 4 from 3 a", 5);
        Check.faulty(LEFT + ";seen back 4 from 4 a", 4, at + 17);
        Check.faulty(LEFT + ";seen back 3 from 1 abc", 7, at + 19);
        Check.faulty(LEFT + ";seen back 5 from 0 a", 4, at + 10);
        Check.faulty(LEFT + ";seen up 0 from 0 a", 1, at + 5);
        Check.faulty(LEFT + ";seen back 0 of 0 a", 1, at + 12);
        openingsOf("fan ribs 2 wide 2 price 1 opens even;rib ab cd broken;rib ef gh broken;seen front 2 from 0 abef", 3);
        String six = "seen front 1 from 0 a" + ";seen front 1 from 0 a".repeat(5);
        fine(six);
        line(six + ";seen front 1 from 0 a", 5, six.length() + 1);
        Check.same("six", fan(FAN + ";" + six).size(5), 6);
    }

    private static void beatLine() {
        quote("beat WHOLE {, WHOLE} (OPENINGS; up to 6; once)");
        fine("beat 0");
        fine("beat 0,1,0,1,0,1");
        line("beat 0,1,0,1,0,1,0", 5, 17);
        line("beat 0,2", 4, 7);
        line("beat 0;beat 0", 3, 7);
        line("beat", 1, 4);
        line("beat 0,", 1, 7);
        line("beat 0 1", 1, 7);
        Check.same("six", fan(FAN + ";beat 0,1,0,1,0,1").size(6), 6);
        Check.same("one", fan(FAN + ";beat 1").size(6), 1);
        openingsOf(LEFT + ";beat 4", 5);
        Check.faulty(LEFT + ";beat 5", 4, LEFT.length() + 6);
    }

    private static void anyWords() {
        quote("All WORDS may be any (also those of LINES).");
        FanParts x = fan("fan ribs 5 wide 3 price 0 opens even;rib rib fan broken;rib fan rib;word word;word wish;word seen;word beat;"
            + "word broken;word front;wish wish front 1;wish from back 2;wish even back 0;wish fan front 3;seen back 3 from 0 zzz;"
            + "seen front 3 from 0 ribfan");
        Check.same("words", x.size(3), 6);
        Check.same("wishes", x.size(4), 4);
        Check.same("a rib named fan", x.cell(0, 1, 0), 5);
        Check.same("fits", x.fits(), 1);

        quote("A letter z is no letter: the cell is bare.");
        x = fan("fan ribs 2 wide 2 price 3 opens even;rib zy za;word z;word yz;wish z front 2;seen front 2 from 0 zy");
        Check.same("cell", x.cell(0, 0, 0), -2);
        Check.same("letter", x.letter(0, 2, 0), -2);
        Check.same("y is one", x.cell(0, 0, 1), 24);
        Check.same("painted", x.painted(), 2);
        Check.same("sure", x.sure(0, 0, 0), -2);
        Check.same("fits", x.fits(), 1);
        Check.same("says", x.says(0, 2), 0);
    }

    private static void faultOrder() {
        quote("FAULTS, the first that is met from the left, of one place the least number:");
        line("word a;word a;rib ab", 3, 12);
        line("rib ab a;word a;word a", 4, 4);
        line("wish a front 2 ?", 4, 13);
        line("? wish a front 2", 1, 0);
        // At one place: BOUNDS ahead of MANY, AGAIN ahead of MANY, BOUNDS ahead of BEYOND, FORM ahead of all.
        line("beat 0,1,0,1,0,1,2", 4, 17);
        line("beat 0,1,0,1,0,1,x", 1, 17);
        line("beat 0;beat", 3, 7);
        line("beat 0,0,0,0,0,0;beat 0", 3, 17);
        Check.faulty("", 1, 0);
        // MANY is told at the LINE's first WORD, so what is wrong behind it isn't met.
        line("rib a b;rib a b;rib abc", 5, 16);
        line("word a;word b;word c;word d;word e;word f;word a", 5, 42);
        line("fan ?", 3, 0);
        Check.faulty("beat ?", 6, 0);
    }

    private static void faultForm() {
        quote("1 FORM: the first byte that begins no TOKEN, or TOKEN with which no FAN goes on (the end: its place).");
        Check.faulty("?", 1, 0);
        Check.faulty("  ?", 1, 2);
        Check.faulty("fan?", 1, 3);
        Check.faulty("f", 1, 0);
        Check.faulty("7", 1, 0);
        Check.faulty(",", 1, 0);
        // A name that differs in one letter is none.
        String all = FAN + ";rib a b broken;word a;wish a front 0;seen back 0 from 0 a;beat 0";
        openingsOf(all, 2);
        for (int i = 0; i < all.length(); i++) {
            int from = all.lastIndexOf(' ', i) + 1;
            from = Math.max(from, all.lastIndexOf(';', i) + 1);
            int to = i;
            while (to < all.length() && Character.isLetter(all.charAt(to))) {
                to++;
            }
            if (to > i && to - from > 1) {
                Check.faulty(all.substring(0, i) + "q" + all.substring(i + 1), 1, from);
            }
        }
        // Cut off behind each TOKEN: the end, behind blanks too.
        int[] ends = {3, 8, 10, 15, 17, 23, 25, 31};
        for (int end : ends) {
            Check.faulty(FAN.substring(0, end), 1, end);
            Check.faulty(FAN.substring(0, end) + "  ", 1, end + 2);
            Check.faulty(FAN.substring(0, end) + " ;", 1, end + 1);
        }
        String[] cut = {"rib", "rib a", "word", "wish", "wish a", "wish a back", "seen", "seen back", "seen back 0", "seen back 0 from",
            "seen back 0 from 0", "beat", "beat 0,"};
        for (String part : cut) {
            line(part, 1, part.length());
            line(part + " ", 1, part.length() + 1);
            line(part + "\u00e9", 1, part.length());
            line(part + ";rib a b", 1, part.length());
        }
        // A text of which only the first bytes are taken ends there.
        FanParts x = new FanParts();
        Check.feedText(x, FAN);
        Check.refused(x, "fan(31)", x.fan(31), 4);
        Check.same("fault()", x.fault(), 1);
        Check.same("where()", x.where(), 31);
        // What stands on the tape behind them isn't read: a WORD, a WHOLE and a LINE that are cut.
        String wholes = "fan ribs 10 wide 11 price 999 opens even;word abcdefghij";
        int[][] places = {{10, 4, 9}, {18, 1, 18}, {19, 4, 17}};
        for (int[] place : places) {
            Check.feedText(x, wholes);
            Check.refused(x, "fan(" + place[0] + ")", x.fan(place[0]), 4);
            Check.same("fault() of " + place[0], x.fault(), place[1]);
            Check.same("where() of " + place[0], x.where(), place[2]);
        }
        Check.feedText(x, FAN + ";beat 1111;word abcdefghij");
        Check.answered(x, "a WHOLE that is cut", x.fan(FAN.length() + 7), 2);
        Check.same("beats", x.size(6), 1);
        Check.feedText(x, FAN + ";word abcdefghij");
        Check.answered(x, "a WORD that is cut", x.fan(FAN.length() + 14), 2);
        Check.same("words", x.size(3), 1);
        Check.feedText(x, FAN + ";beat 1;beat 1");
        Check.answered(x, "a LINE that is cut", x.fan(FAN.length() + 7), 2);
    }

    private static void faultsAgainAndBounds() {
        quote("3 a word told again; at it; a second fan, beat; at that WORD.");
        line("word ab;word a;word ab", 3, 20);
        fine("word ab;word a;word b;word abc;word ba;wish ab front 0;wish ab front 0");
        line("word a;word b;word c;word d;word e;word a", 3, 40);
        line(FAN, 3, 0);
        line("rib a b;" + FAN, 3, 8);
        line("beat 0;rib a b;beat 0", 3, 15);

        quote("4 a WHOLE out of bounds, a WORD of another number of letters than wide; at it.");
        Check.faulty("fan ribs 999", 4, 9);
        Check.faulty("fan ribs 2 wide 000", 4, 16);
        line("rib zz z", 4, 4);
        line("rib z zz", 4, 6);
        line("wish a back 2", 4, 12);
        line("seen front 2 from 0 a", 4, 11);
        line("seen front 1 from 2 a", 4, 18);
        line("beat 0,0,2,0", 4, 9);
        // The bounds are those of this FAN.
        openingsOf("fan ribs 10 wide 3 price 0 opens left;wish a back 27;beat 27;seen front 27 from 29 z", 28);
        Check.faulty("fan ribs 10 wide 3 price 0 opens left;beat 28", 4, 43);
        Check.faulty("fan ribs 10 wide 3 price 0 opens left;seen front 27 from 30 z", 4, 57);
        Check.faulty("fan ribs 10 wide 3 price 0 opens even;beat 4", 4, 43);
        openingsOf("fan ribs 10 wide 3 price 0 opens even;seen back 3 from 29 z;beat 3", 4);
    }

    private static void faultsManyLacksBeyond() {
        quote("5 MANY: a LINE more of its sort than there is room for, at its first WORD; a seventh beat; at it.");
        line("rib a b;rib a b;beat 0;rib", 5, 23);
        line("word a;word b;word c;word d;word e;word f;beat 0;word", 5, 49);
        line("wish a back 0;".repeat(4) + "beat 0;wish", 5, 63);
        line("seen back 0 from 0 a;".repeat(6) + "beat 0;seen", 5, 133);
        line("beat 0,0,0,0,0,0 , 0", 5, 19);

        quote("6 LACKS: any LINE ahead of the fan; at its WORD; at the end: no fan.");
        for (String name : new String[] {"rib", "word", "wish", "seen", "beat"}) {
            Check.faulty(name, 6, 0);
            Check.faulty("  " + name + " a b;" + FAN, 6, 2);
        }
        // The least number of the end's place is FORM's.
        Check.faulty("    ", 1, 4);

        quote("7 a WORD seen beyond what shows; at it. (2 there is none.)");
        line("seen front 0 from 0 ab", 7, 20);
        line("seen front 1 from 0 abc", 7, 20);
        line("seen back 1 from 1  ab", 7, 20);
        line("seen back 1 from 1 ab", 7, 19);
        fine("seen back 1 from 0 ab");
        fine("seen back 1 from 1 a");
    }

    // ---- II

    private static void numbers() {
        quote("II. RIBS have numbers from 0 on, from the left as seen from the front.");
        FanParts x = fan(EVEN);
        Check.same("the first told is rib 0", x.at(0, 3, 0), 0);
        Check.same("the last told is the last", x.at(0, 3, 8), 8);
        Check.refused(x, "rib 3", x.broken(3), 1);

        quote("CELLS of a rib have numbers from 0 on, on each SIDE (0 front, 1 back) from the left as seen from there.");
        Check.same("front, cell 0", x.cell(0, 1, 0), 'g' - 'a');
        Check.same("front, cell 2", x.cell(0, 1, 2), 'i' - 'a');
        Check.same("back, cell 0", x.cell(1, 1, 0), 'j' - 'a');
        Check.same("back, cell 2", x.cell(1, 1, 2), 'l' - 'a');
        Check.refused(x, "cell 3", x.cell(0, 1, 3), 1);
        Check.refused(x, "side 2", x.cell(2, 1, 0), 1);
    }

    private static void openings() {
        quote("OPENINGS: even: 0 up to wide; left: 0 up to wide times (ribs less 1).");
        FanParts even = fan(EVEN);
        FanParts left = fan(LEFT);
        Check.answered(even, "even, wide", even.shows(0, 3), 9);
        Check.refused(even, "even, wide and 1", even.shows(0, 4), 2);
        Check.answered(left, "left, the last", left.shows(0, 4), 6);
        Check.refused(left, "left, behind it", left.shows(0, 5), 2);

        quote("How open a rib is: even: as many CELLS as the OPENING says;");
        for (int opening = 0; opening <= 3; opening++) {
            Check.same("even, front, at " + opening, even.shows(0, opening), 3 + 2 * opening);
            Check.same("even, back, at " + opening, even.shows(1, opening), 3 + 2 * opening);
        }

        quote("left: the OPENING less wide times its number, 0 at least, wide at most.");
        int[] first = {0, 1, 2, 2, 2};
        int[] second = {0, 0, 0, 1, 2};
        for (int opening = 0; opening <= 4; opening++) {
            Check.same("left, front, at " + opening, left.shows(0, opening), 2 + first[opening] + second[opening]);
            Check.same("left, back, at " + opening, left.shows(1, opening), 2 + second[opening]);
        }
    }

    private static String row(FanParts x, int side, int opening) {
        StringBuilder text = new StringBuilder();
        for (int place = 0; place < x.shows(side, opening); place++) {
            int letter = x.letter(side, opening, place);
            text.append(letter < 0 ? '_' : (char) ('a' + letter));
        }
        return text.toString();
    }

    private static void rows(FanParts x, int side, String... want) {
        for (int opening = 0; opening < want.length; opening++) {
            String got = row(x, side, opening);
            Check.same("side " + side + " at " + opening + " shows " + got + ", due is " + want[opening], got.equals(want[opening]), true);
        }
        Check.refused(x, "shows beyond", x.shows(side, want.length), 2);
    }

    private static void frontAndBack() {
        quote("FRONT at an OPENING: the CELLS of ribs from 0 on, one behind the other, of each as many of its first ones as it is open;"
            + " of the last rib all.");
        rows(fan(EVEN), 0, "mno", "agmno", "abghmno", "abcghimno");
        rows(fan(LEFT), 0, "ef", "aef", "abef", "abcef", "abcdef");

        quote("BACK: ribs from the last one down to 0, of each as many of its first CELLS there as it is open; of rib 0 all.");
        rows(fan(EVEN), 1, "def", "pjdef", "pqjkdef", "pqrjkldef");
        rows(fan(LEFT), 1, "gh", "gh", "gh", "igh", "ijgh");
        rows(fan("fan ribs 4 wide 1 price 1 opens left;rib a b;rib c d;rib e f;rib g h"), 1, "b", "b", "db", "fdb");
    }

    private static void brokenLeftOut() {
        quote("Broken ribs are left out (if the last one, or rib 0, is broken: of no other one all).");
        FanParts x = fan(EVEN);
        x.breaks(1, true);
        rows(x, 0, "mno", "amno", "abmno", "abcmno");
        rows(x, 1, "def", "pdef", "pqdef", "pqrdef");
        x.breaks(1, false);
        x.breaks(2, true);
        rows(x, 0, "", "ag", "abgh", "abcghi");
        rows(x, 1, "def", "jdef", "jkdef", "jkldef");
        x.breaks(2, false);
        x.breaks(0, true);
        rows(x, 0, "mno", "gmno", "ghmno", "ghimno");
        rows(x, 1, "", "pj", "pqjk", "pqrjkl");
        x.breaks(1, true);
        x.breaks(2, true);
        rows(x, 0, "", "", "", "");
        rows(x, 1, "", "", "", "");
        // How open a rib is doesn't hang on those that are broken.
        x = fan(LEFT);
        x.breaks(0, true);
        rows(x, 0, "ef", "ef", "ef", "cef", "cdef");
        rows(x, 1, "", "", "", "i", "ij");

        quote("PLACES are those that show, from 0 on.");
        Check.answered(x, "place 0", x.at(0, 3, 0), 2);
        Check.answered(x, "place 2", x.at(0, 3, 2), 5);
        Check.refused(x, "place 3", x.at(0, 3, 3), 1);
        Check.refused(x, "place -1", x.at(0, 3, -1), 1);
        Check.refused(x, "place 0 where none shows", x.at(1, 0, 0), 1);
    }

    private static void reading() {
        quote("A word is READ from a PLACE, if its letters stand there, one behind the other (a z in a word is never there).");
        FanParts x = fan("fan ribs 3 wide 2 price 1 opens even;rib aa zz;rib az zz;rib zz zz;word aa;word az;word z;word aaa;word aaaa");
        // Front: __, aa__, aaa___.
        Check.answered(x, "overlapping", x.reads(0, 0, 2), 2);
        Check.answered(x, "up to the end", x.reads(3, 0, 2), 1);
        Check.answered(x, "a bare CELL ends it", x.reads(4, 0, 2), 0);
        Check.answered(x, "z is not READ in a bare CELL", x.reads(1, 0, 2), 0);
        Check.answered(x, "z alone", x.reads(2, 0, 2), 0);
        Check.answered(x, "z alone, first", x.readAt(2, 0, 2), -2);
        x = fan("fan ribs 2 wide 2 price 1 opens even;rib za zz;rib ab zz;word ab;word aba;word b");
        Check.answered(x, "in the last PLACES", x.readAt(0, 0, 2), 2);
        Check.answered(x, "beyond the last PLACE", x.reads(1, 0, 2), 0);
        Check.answered(x, "in the last PLACE alone", x.readAt(2, 0, 2), 3);

        quote("A word's SPANS: rows of OPENINGS, one behind the other, at each of which it is READ somewhere on a SIDE.");
        x = fan("fan ribs 4 wide 1 price 1 opens left;rib a z;rib z z;rib b z;rib c z;word c;word ac;word bc;word ab;word z");
        // Front: c, ac, a_c, a_bc.
        int[] counts = {1, 1, 1, 0, 0};
        for (int word = 0; word < counts.length; word++) {
            Check.answered(x, "spans of word " + word, x.spans(word, 0), counts[word]);
        }
        Check.answered(x, "all of them", x.span(0, 0, 0, true) - x.span(0, 0, 0, false), 3);
        Check.answered(x, "one alone", x.span(1, 0, 0, true) - x.span(1, 0, 0, false), 0);
        Check.answered(x, "the last one", x.span(2, 0, 0, false), 3);
        // A SPAN goes on where the word is READ from another PLACE.
        x = fan("fan ribs 2 wide 3 price 1 opens left;rib axx zzz;rib xxa zzz;word a");
        Check.answered(x, "from another PLACE", x.spans(0, 0), 1);
    }

    private static void keeping() {
        quote("A wish is KEPT if its word is READ at its OPENING, on its SIDE.");
        FanParts x = fan(LEFT + ";wish ae front 1;wish ae front 2;wish ae back 1;wish z front 0");
        int[] kept = {1, 0, 0, 0};
        for (int i = 0; i < kept.length; i++) {
            Check.answered(x, "kept " + i, x.kept(i), kept[i]);
        }

        quote("A MISTAKE: a word told by word, a SIDE, an OPENING, where it is READ, if no wish tells that very word, SIDE, OPENING.");
        x = fan(LEFT + ";word ef;wish ef front 0;wish ef back 1;wish e front 2;wish efg front 3");
        Check.answered(x, "mistakes", x.mistakes(), 4);
        int[] due = {1, 2, 3, 4};
        for (int i = 0; i < due.length; i++) {
            Check.answered(x, "mistake " + i, x.mistake(i), due[i]);
        }
        x = fan(LEFT + ";wish ef front 0");
        Check.answered(x, "a wish's word that isn't told by word", x.mistakes(), 0);

        quote("PAINTED: CELLS, on both SIDES, that aren't bare. COST: price for each.");
        x = fan("fan ribs 2 wide 2 price 99 opens even;rib az bc broken");
        Check.answered(x, "painted", x.painted(), 3);
        Check.answered(x, "cost", x.cost(), 297);
        x = fan("fan ribs 2 wide 2 price 0 opens even;rib ab cd;rib ef gh");
        Check.answered(x, "all painted", x.painted(), 8);
        Check.answered(x, "for nothing", x.cost(), 0);
        x = fan("fan ribs 10 wide 3 price 99 opens even" + ";rib abc def".repeat(10));
        Check.answered(x, "the dearest", x.cost(), 5940);
    }

    // ---- III

    private static void mends() {
        quote("III. MEND of a wish: the fewest CELLS to paint anew so that it is KEPT (broken ribs stay so;"
            + " -2 if fewer CELLS show than it has letters, or if it has a z); of PLACES with like ones the first.");
        FanParts x = fan(LEFT + ";wish abxd front 4;wish xx front 0;wish xxx front 0;wish az front 4");
        Check.answered(x, "one CELL", x.mend(0), 1);
        Check.answered(x, "its PLACE", x.mendAt(0), 0);
        Check.answered(x, "as many letters as show", x.mend(1), 2);
        Check.answered(x, "its PLACE", x.mendAt(1), 0);
        Check.answered(x, "a letter more than shows", x.mend(2), -2);
        Check.answered(x, "no PLACE", x.mendAt(2), -2);
        Check.answered(x, "a z", x.mend(3), -2);
        Check.answered(x, "a z, no PLACE", x.mendAt(3), -2);
        x.breaks(2, true);
        Check.answered(x, "none shows", x.mend(1), -2);
        Check.answered(x, "broken ribs stay so", x.mend(0), 1);
        x.breaks(0, true);
        Check.answered(x, "too few are left", x.mend(0), -2);
        x = fan("fan ribs 4 wide 1 price 1 opens even;rib b z;rib a z;rib b z;rib a z;wish ax front 1;wish x front 1;wish ba front 1");
        Check.answered(x, "like ones", x.mend(0), 1);
        Check.answered(x, "the first of like ones", x.mendAt(0), 1);
        Check.answered(x, "all alike", x.mendAt(1), 0);
        Check.answered(x, "KEPT already", x.mend(2), 0);
        Check.answered(x, "from the first PLACE", x.mendAt(2), 0);

        quote("MEND of all: the fewest CELLS to paint anew so that all wishes are KEPT together; -2.");
        Check.answered(x, "together", x.mendAll(), 1);
        x = fan(LEFT);
        Check.answered(x, "no wishes", x.mendAll(), 0);
        x = fan(FAN + ";wish a front 0;wish b front 0");
        Check.answered(x, "each alone can be, together not", x.mendAll(), -2);
        Check.answered(x, "each alone", x.mend(0) + x.mend(1), 2);
        x = fan(FAN + ";wish a front 0;wish b back 0");
        Check.answered(x, "the two SIDES of a rib are apart", x.mendAll(), 2);
        x = fan(FAN + ";wish a front 0;wish a front 1;wish a front 0");
        Check.answered(x, "a CELL for many wishes", x.mendAll(), 1);
        x = fan(FAN + ";wish abc back 1;wish a front 0");
        Check.answered(x, "one too long", x.mendAll(), -2);
        x = fan(FAN + ";wish a front 0;wish z back 1");
        Check.answered(x, "one with a z", x.mendAll(), -2);
        // A rib that is dear for one wish is cheap for both.
        x = fan("fan ribs 4 wide 1 price 1 opens even;rib a z;rib z z;rib z z;rib z z;wish abc front 1;wish bcd front 1");
        Check.answered(x, "overlapping", x.mendAll(), 3);
        // The cheapest PLACES of the first wish aren't those of the cheapest way.
        mendAll("b a z", 2, "cb", "bc");
        mendAll("b a a", 1, "d", "d", "b");
        mendAll("b b b", 1, "ab", "ba");
        mendAll("a a b b b", 3, "bcd", "dbb");
        mendAll("b a c b", 1, "aa", "ab");
        x = fan("fan ribs 10 wide 3 price 1 opens left;wish abcdefgh front 27;wish abcdefgh back 27;wish hgfedcba front 27;wish ba back 0");
        Check.answered(x, "the longest wishes", x.mendAll(), 8 + 7 + 8 + 2);
    }

    /** Wishes on a front of CELLS of one letter each. */
    private static void mendAll(String front, int due, String... wishes) {
        String[] cells = front.split(" ");
        StringBuilder text = new StringBuilder("fan ribs " + cells.length + " wide 1 price 1 opens even");
        for (String cell : cells) {
            text.append(";rib ").append(cell).append(" z");
        }
        for (String wish : wishes) {
            text.append(";wish ").append(wish).append(" front 1");
        }
        FanParts x = fan(text.toString());
        Check.answered(x, "mendAll() of " + text, x.mendAll(), due);
    }

    private static void losesAndTreaty() {
        quote("LOSES of a rib: wishes KEPT now that aren't if it is broken.");
        FanParts x = fan(LEFT + ";wish ab front 4;wish ef front 0;wish abef front 4;wish ij back 4");
        Check.answered(x, "rib 0", x.loses(0), 1);
        Check.answered(x, "rib 1, that makes one be READ", x.loses(1), 8);
        Check.answered(x, "rib 2", x.loses(2), 2);

        quote("TREATY of a word: the first rib that isn't broken, without which the word is READ on a SIDE at an OPENING"
            + " where it isn't READ now;");
        x = fan("fan ribs 4 wide 1 price 1 opens even;rib a z;rib b z;rib b z;rib c z;word ab;word bc;word ac;word abc;word z;word c");
        Check.answered(x, "READ now", x.treaty(0, false), -2);
        Check.answered(x, "the first of two", x.treaty(3, false), 1);
        Check.answered(x, "two ribs are too many", x.treaty(2, false), -2);
        Check.answered(x, "a z", x.treaty(4, false), -2);
        x.breaks(1, true);
        Check.answered(x, "broken ones are passed over", x.treaty(2, false), 2);
        Check.answered(x, "READ now, with it broken", x.treaty(3, false), -2);

        quote("its OPENING: the first such, of one OPENING the front ahead of the back.");
        x = fan("fan ribs 3 wide 2 price 1 opens left;rib ab ef;rib cd zz;rib ef cd;word be;word bez");
        Check.answered(x, "the first", x.treaty(0, true), 3);
        Check.answered(x, "none", x.treaty(1, true), -2);
        x = fan("fan ribs 3 wide 1 price 1 opens even;rib a c;rib b b;rib c a;word ac;word ca");
        Check.answered(x, "front and back at one", x.treaty(0, true), 1);
        x = fan("fan ribs 3 wide 1 price 1 opens even;rib a a;rib b b;rib c c;word ca");
        Check.answered(x, "the back", x.treaty(0, true), 51);
    }

    private static void severAndPack() {
        quote("SEVER of a word: the fewest more ribs to break so that it is READ on a SIDE at an OPENING (0 if it is now);"
            + " of like ones the least bits of ribs.");
        FanParts x = fan("fan ribs 5 wide 1 price 1 opens even;rib a z;rib b z;rib b z;rib a z;rib c z;word aba;word aa;word ac;word bb;word ca");
        Check.answered(x, "now", x.sever(3, 0, 1, false), 0);
        Check.answered(x, "now, bits", x.sever(3, 0, 1, true), 0);
        Check.answered(x, "now, at the end", x.sever(2, 0, 1, true), 0);
        Check.answered(x, "one of two like ones", x.sever(0, 0, 1, false), 1);
        Check.answered(x, "the least bits", x.sever(0, 0, 1, true), 2);
        Check.answered(x, "two", x.sever(1, 0, 1, false), 2);
        Check.answered(x, "two, bits", x.sever(1, 0, 1, true), 6);
        Check.answered(x, "never", x.sever(4, 0, 1, false), -2);
        Check.answered(x, "never, bits", x.sever(4, 0, 1, true), -2);
        Check.answered(x, "closed", x.sever(0, 0, 0, true), -2);
        x.breaks(1, true);
        Check.answered(x, "more, beside those broken", x.sever(1, 0, 1, false), 1);
        Check.answered(x, "more, bits", x.sever(1, 0, 1, true), 4);
        x = fan("fan ribs 10 wide 1 price 1 opens even;rib a z" + ";rib b z".repeat(8) + ";rib c z;word ac;word bc");
        Check.answered(x, "eight of ten", x.sever(0, 0, 1, false), 8);
        Check.answered(x, "eight of ten, bits", x.sever(0, 0, 1, true), 510);
        Check.answered(x, "the last rib stays", x.sever(1, 0, 1, true), 0);

        quote("PACK: of the words told (without z) the most that can be READ together in one row of letters no longer than"
            + " the most CELLS that show on a SIDE of a whole fan (ribs times wide):");
        pack(FAN, 0, 0, 0);
        pack(FAN + ";word abc", 0, 0, 0);
        pack(FAN + ";word ab", 1, 1, 2);
        pack(FAN + ";word z;word az", 0, 0, 0);
        pack(FAN + ";word z;word b", 1, 2, 1);
        pack(FAN + ";rib a b broken;rib a b broken;word ab", 1, 1, 2);
        pack("fan ribs 10 wide 3 price 1 opens even;word abcdefgh;word ijklmnop;word qrstuvwx;word yydydy;word dddddddd", 4, 15, 30);
        pack("fan ribs 10 wide 3 price 1 opens even;word abcdefgh;word ijklmnop;word qrstuvwx;word yydydyy", 3, 11, 23);

        quote("of like ones the shortest row, then the least bits of words; words may overlap, one may lie in another one.");
        pack(FAN + ";word ab;word c", 1, 2, 1);
        pack(FAN + ";word ab;word cd", 1, 1, 2);
        pack(FAN + ";word b;word c;word d", 2, 3, 2);
        pack(FAN + ";word ab;word b;word a", 3, 7, 2);
        pack("fan ribs 3 wide 1 price 1 opens even;word ab;word bc;word ca", 2, 3, 3);
        pack("fan ribs 3 wide 1 price 1 opens even;word a;word aa;word aaa;word aaaa", 3, 7, 3);
    }

    private static void pack(String text, int count, int bits, int length) {
        FanParts x = fan(text);
        Check.answered(x, "pack(0) of " + text, x.pack(0), count);
        Check.answered(x, "pack(1) of " + text, x.pack(1), bits);
        Check.answered(x, "pack(2) of " + text, x.pack(2), length);
    }

    private static void sureAndClash() {
        quote("SURE: CELLS whose letters are told by what was seen (of a whole fan, none broken):");
        FanParts x = fan("fan ribs 3 wide 2 price 1 opens left;rib ab gh broken;rib cd ij;rib ef kl broken;seen front 3 from 1 xyz;seen back 3 from 0 pq");
        // Places of the front at 3: 0.0 0.1 1.0 2.0 2.1; of the back at 3: 1.0 0.0 0.1.
        int[][] due = {{0, 0, 0, -3}, {0, 0, 1, 'x' - 'a'}, {0, 1, 0, 'y' - 'a'}, {0, 1, 1, -3}, {0, 2, 0, -2}, {0, 2, 1, -3},
            {1, 1, 0, 'p' - 'a'}, {1, 0, 0, 'q' - 'a'}, {1, 0, 1, -3}, {1, 2, 0, -3}};
        for (int[] d : due) {
            Check.answered(x, "sure " + d[0] + " " + d[1] + " " + d[2], x.sure(d[0], d[1], d[2]), d[3]);
        }
        Check.answered(x, "sureCells", x.sureCells(), 5);
        x.breaks(1, true);
        x.paint(0, 1, 0, 3);
        Check.answered(x, "acts don't tell", x.sure(0, 1, 0), 'y' - 'a');

        quote("CLASH: the first one seen that tells a CELL other than one ahead of it; those from the CLASH on don't count.");
        x = fan(FAN + ";seen front 1 from 0 a;seen front 1 from 0 ab;seen front 1 from 1 b;seen front 0 from 0 a;seen back 0 from 0 a");
        Check.answered(x, "told again alike is none", x.clash(), 3);
        Check.answered(x, "those behind it don't count", x.sure(1, 0, 0), -3);
        Check.answered(x, "nor does it", x.sureCells(), 2);
        x = fan(FAN + ";seen front 1 from 1 b;seen front 1 from 0 ac");
        Check.answered(x, "the second", x.clash(), 1);
        Check.answered(x, "of the clash nothing is SURE", x.sure(0, 0, 0), -3);
        x = fan(FAN + ";seen front 0 from 0 z;seen front 0 from 0 a");
        Check.answered(x, "bare and a letter", x.clash(), 1);
        x = fan(FAN + ";seen front 0 from 0 a;seen back 0 from 0 b;seen back 1 from 0 a");
        Check.answered(x, "front and back are apart", x.clash(), -2);
        x = fan(FAN + ";rib a a;rib b b;seen front 0 from 0 c");
        Check.answered(x, "the painting is no one seen", x.clash(), -2);
        x = fan(FAN);
        Check.answered(x, "none seen", x.clash(), -2);
    }

    private static void fitsAndAsk() {
        quote("FITS: the fan as painted (none taken as broken) shows just all that was seen, z as bare.");
        FanParts x = fan(FAN + ";rib a b broken;rib z d broken;seen front 1 from 0 az;seen back 1 from 0 db");
        Check.answered(x, "fits, all broken", x.fits(), 1);
        x.paint(0, 1, 0, 2);
        Check.answered(x, "bare was seen", x.fits(), 0);
        x.undo();
        x.paint(1, 0, 0, 25);
        Check.answered(x, "a letter was seen", x.fits(), 0);
        FanParts blind = fan(FAN);
        Check.answered(blind, "nothing seen", blind.fits(), 1);
        x = fan(FAN + ";rib a b;seen front 1 from 0 a;seen front 1 from 0 c");
        Check.answered(x, "a clash never fits", x.fits(), 0);
        String six = ";seen front 1 from 0 a".repeat(5);
        x = fan(FAN + ";rib a b" + six + ";seen front 1 from 0 az");
        Check.answered(x, "all six fit", x.fits(), 1);
        x.paint(0, 1, 0, 4);
        Check.answered(x, "the sixth doesn't", x.fits(), 0);

        quote("ASK: the SIDE and OPENING at which most CELLS show (of a whole fan, too) that aren't SURE;"
            + " of like ones the front, the least OPENING.");
        x = fan(EVEN);
        Check.answered(x, "nothing seen", x.ask(), 3);
        x = fan(LEFT + ";seen front 4 from 0 a");
        Check.answered(x, "like ones: 5 show on the front at 4", x.ask(), 4);
        x = fan(LEFT + ";seen front 4 from 0 ab");
        Check.answered(x, "front and back alike", x.ask(), 4);
        x = fan(LEFT + ";seen front 4 from 0 abc");
        Check.answered(x, "more on the back", x.ask(), 54);
        x = fan(LEFT + ";seen front 4 from 2 cdef;seen back 4 from 1 zz");
        Check.answered(x, "the least of like ones", x.ask(), 2);
        x.breaks(0, true);
        Check.answered(x, "of a whole fan", x.ask(), 2);
        x = fan(LEFT + ";seen front 4 from 0 abcdef;seen back 4 from 0 ijg");
        Check.answered(x, "one is left", x.ask(), 50);
        x = fan(LEFT + ";seen front 4 from 0 abcdef;seen back 4 from 0 ijgh");
        Check.answered(x, "what can never show isn't asked for", x.ask(), -2);
    }

    private static void smears() {
        quote("SMEAR from an OPENING to one, on a SIDE: PLACES that don't show the same (letters, bare ones alike;"
            + " also those that show at one alone).");
        FanParts x = fan("fan ribs 3 wide 2 price 1 opens left;rib az zz;rib zz gh;rib az ij");
        // Front: a_, aa_, a_a_, a__a_, a___a_. Back: __, __, __, g__, gh__.
        Check.answered(x, "to itself", x.smear(0, 4, 4), 0);
        Check.answered(x, "bare ones alike", x.smear(0, 0, 2), 2);
        Check.answered(x, "one alone", x.smear(0, 2, 3), 3);
        Check.answered(x, "the other way", x.smear(0, 3, 2), 3);
        Check.answered(x, "letters", x.smear(0, 0, 1), 2);
        Check.answered(x, "the back", x.smear(1, 2, 4), 4);
        Check.answered(x, "the back, unchanged", x.smear(1, 0, 2), 0);
        x.breaks(2, true);
        x.breaks(0, true);
        Check.answered(x, "from nothing", x.smear(0, 0, 4), 2);
        Check.answered(x, "from nothing to nothing", x.smear(0, 0, 2), 0);

        quote("BEATS: the row told; its SMEAR: all from one beat to the next one, on the front.");
        x = fan(LEFT + ";beat 4,0,3");
        Check.answered(x, "beats", x.beats(), 6 + 5);
        x = fan(LEFT + ";beat 4");
        Check.answered(x, "one beat", x.beats(), 0);
        x = fan(LEFT + ";beat 4,4,4,4,4,4");
        Check.answered(x, "the same beats", x.beats(), 0);

        quote("CALM: the order of all beats of least SMEAR, the first by their numbers.");
        x = fan(LEFT + ";beat 4,0,3");
        int[] due = {0, 2, 1};
        Check.answered(x, "calm", x.calm(), 3 + 5);
        for (int i = 0; i < due.length; i++) {
            Check.answered(x, "calmAt " + i, x.calmAt(i), due[i]);
        }
        // The order and its reverse smear alike: the one that begins with the lesser number.
        x = fan(LEFT + ";beat 3,4,0");
        due = new int[] {1, 0, 2};
        for (int i = 0; i < due.length; i++) {
            Check.answered(x, "calmAt " + i + ", of two", x.calmAt(i), due[i]);
        }
        x = fan(LEFT + ";beat 0,4,0,4,0,4");
        due = new int[] {0, 2, 4, 1, 3, 5};
        Check.answered(x, "calm of like ones", x.calm(), 6);
        for (int i = 0; i < due.length; i++) {
            Check.answered(x, "calmAt " + i + ", of like ones", x.calmAt(i), due[i]);
        }
        // From one OPENING to another as many smear as they are apart, and the three CELLS of the last rib.
        x = fan("fan ribs 10 wide 3 price 1 opens left" + ";rib abc zzz".repeat(9) + ";rib xyw zzz;beat 27,0,22,5,16,10");
        Check.answered(x, "a great SMEAR", x.calm(), 27 + 5 * 3);
        due = new int[] {0, 2, 4, 5, 3, 1};
        for (int i = 0; i < due.length; i++) {
            Check.answered(x, "calmAt " + i + ", of six", x.calmAt(i), due[i]);
        }
        x = fan(LEFT + ";beat 2");
        Check.answered(x, "calm of one", x.calm(), 0);
        Check.answered(x, "calmAt of one", x.calmAt(0), 0);
    }

    private static void acts() {
        quote("NOW: an OPENING, 0 at first.");
        FanParts x = fan(LEFT + ";beat 4,0,3");
        Check.same("NOW", x.size(7), 0);
        Check.refused(x, "open(0)", x.open(0), 5);

        quote("ACTS: PAINT a CELL, BREAK a rib, or mend it, OPEN, FLUTTER (NOW is the OPENING of the last beat).");
        x.paint(0, 0, 0, 9);
        Check.same("one act", x.size(8), 1);
        x.breaks(0, true);
        Check.same("two acts", x.size(8), 2);
        x.breaks(0, false);
        Check.same("three acts", x.size(8), 3);
        x.open(2);
        Check.same("four acts", x.size(8), 4);
        x.flutter();
        Check.same("five acts", x.size(8), 5);
        Check.same("NOW", x.size(7), 3);
        x.flutter();
        Check.same("an act that leaves NOW as it is", x.size(8), 6);
        x.undo();
        Check.same("undone", x.size(7), 3);
        x.undo();
        Check.same("undone again", x.size(7), 2);
    }

    private static void undoAndImages() {
        quote("UNDO: the latest (16 are kept).");
        FanParts x = fan(LEFT);
        for (int i = 0; i < 17; i++) {
            x.open(1 + i % 2);
        }
        Check.same("acts", x.size(8), 16);
        for (int i = 16; i > 0; i--) {
            Check.same("NOW ahead of undo", x.size(7), 1 + i % 2);
            Check.allowed(x, "undo", x.undo());
            Check.same("acts left", x.size(8), i - 1);
        }
        Check.same("the first can't be", x.size(7), 1);
        Check.denied(x, "undo", x.undo(), 6);
        Check.same("NOW stays", x.size(7), 1);
        mixedActs();
        // After some are undone there is room again, and no more is dropped than needed.
        for (int i = 0; i < 16; i++) {
            x.paint(0, 0, 0, 1 + i);
        }
        x.undo();
        x.paint(0, 0, 0, 20);
        for (int i = 0; i < 16; i++) {
            x.undo();
        }
        Check.same("all sixteen", x.cell(0, 0, 0), 0);
        Check.same("of the painting alone", x.size(7), 1);

        quote("IMAGES: up to 3; gone back to one, nothing can be undone.");
        x = fan(LEFT);
        for (int i = 0; i < 3; i++) {
            Check.answered(x, "image", x.image(), i);
            x.open(i + 1);
        }
        Check.refused(x, "a fourth", x.image(), 3);
        Check.same("three", x.size(9), 3);
        Check.allowed(x, "back", x.back(2));
        Check.same("NOW", x.size(7), 2);
        Check.same("acts", x.size(8), 0);
        Check.denied(x, "undo", x.undo(), 6);
        Check.same("NOW stays", x.size(7), 2);
    }

    /** Twenty acts of all sorts: the latest sixteen are undone one by one. */
    private static void mixedActs() {
        FanParts x = fan(LEFT + ";beat 4,0,3,2");
        String[] states = new String[20];
        for (int i = 0; i < 20; i++) {
            states[i] = Edges.state(x);
            switch (i % 5) {
                case 0 -> x.paint(i % 2, i % 3, i / 10, 10 + i / 5);
                case 1 -> x.breaks(i % 3, x.broken(i % 3) == 0);
                case 2 -> x.open((x.size(7) + 1) % 5);
                case 3 -> x.paint(1, (i + 1) % 3, 0, 15 + i / 5);
                default -> x.flutter();
            }
            Check.same("act " + i + " is kept", x.size(8), Math.min(16, i + 1));
        }
        for (int i = 19; i >= 4; i--) {
            Check.allowed(x, "undo act " + i, x.undo());
            // How many could be undone then doesn't count.
            String counts = "^((\\S+ ){8})\\S+ ";
            Check.same("as ahead of act " + i, states[i].replaceFirst(counts, "$1").equals(Edges.state(x).replaceFirst(counts, "$1")), true);
        }
        Check.denied(x, "undo act 3", x.undo(), 6);
    }

    // ---- IV

    private static void trouble() {
        quote("IV. TROUBLE of the latest call that may be refused (those of which a number is told here):");
        FanParts x = fan(LEFT);
        x.open(MAX);
        x.feed(0, 0, 0, 0, 0);
        x.size(MIN);
        x.size(0);
        x.fault();
        x.where();
        x.trouble();
        Check.noneLed(x, 0);
        Check.same("the others leave it", x.trouble(), 2);
        x.paint(0, 0, 0, 25);
        x.open(0);
        x.led(0);
        Check.same("led leaves it", x.trouble(), 5);
        for (int i = 0; i < 50; i++) {
            x.feed(0, 0, 0, 0, 0);
        }
        Check.same("a full tape leaves it", x.trouble(), 5);

        quote("0 it wasn't;");
        x.open(1);
        Check.same("0", x.trouble(), 0);
        quote("1 there is none such;");
        x.broken(9);
        Check.same("1", x.trouble(), 1);
        quote("2 a number;");
        x.shows(0, -1);
        Check.same("2", x.trouble(), 2);
        quote("3 no room;");
        for (int i = 0; i < 4; i++) {
            x.image();
        }
        Check.same("3", x.trouble(), 3);
        quote("4 a FAULT;");
        x.fan(0);
        Check.same("4", x.trouble(), 4);
        quote("5 not so;");
        x.breaks(0, false);
        Check.same("5", x.trouble(), 5);
        quote("6 there is none.");
        x.beats();
        Check.same("6", x.trouble(), 6);
    }

    private static void constants() {
        quote("The constants: `NONE = -1`: There is none; refused.");
        Check.same("NONE", FanParts.NONE, -1);
        Check.same("refused", new FanParts().painted(), FanParts.NONE);
    }
}
