/** The promises, sentence by sentence: each quote is followed by what would fail if the sentence were broken. */
public final class EdgesTest {
    private static final int MIN = Integer.MIN_VALUE;
    private static final int MAX = Integer.MAX_VALUE;
    private static final int BLANKS = 0x20202020;
    // Front: mno, agmno, abghmno, abcghimno. Back: def, pjdef, pqjkdef, pqrjkldef.
    private static final String EVEN = "fan ribs 3 wide 3 price 7 opens even;rib abc def;rib ghi jkl;rib mno pqr";
    // Front: ef, aef, abef, abcef, abcdef. Back: gh, gh, gh, igh, ijgh.
    private static final String LEFT = "fan ribs 3 wide 2 price 1 opens left;rib ab gh;rib cd ij;rib ef kl";
    private static final String TOLD = LEFT + ";word ef;word ab;word z;wish ef front 0;wish gh back 4;seen front 4 from 0 abx;beat 4,0,3";

    private EdgesTest() {
    }

    public static void main(String[] args) {
        newObject();
        feed();
        fan();
        faultAndWhere();
        cellAndBroken();
        showsLetterAt();
        shownAndRibs();
        paintedAndCost();
        readsAndReadAt();
        spansAndSpan();
        says();
        keptAndAllKept();
        mistakes();
        mends();
        losesAndTreaty();
        sever();
        pack();
        clashAndSure();
        fitsAndAsk();
        smear();
        beatsAndCalm();
        flutters();
        paint();
        breaks();
        open();
        flutter();
        undo();
        imageAndBack();
        wish();
        led();
        size();
        trouble();
        for (int number = 1; number <= 51; number++) {
            Document.wholeIsQuoted("Promise " + number);
        }
        Check.end();
    }

    private static void promise(int number, String sentence) {
        Document.promise(number, sentence);
    }

    private static FanParts made(String text) {
        return Check.made(text);
    }

    private static void refusedWithout(String what, int got, FanParts none, int why) {
        Check.refused(none, what + " without a FAN", got, why);
    }

    // ---- the fan

    private static void newObject() {
        promise(1, "No FAN.");
        FanParts x = new FanParts();
        Check.same("trouble()", x.trouble(), 0);
        Check.same("fault()", x.fault(), 0);
        Check.same("where()", x.where(), -1);
        for (int what = 0; what <= 10; what++) {
            Check.same("size(" + what + ")", x.size(what), 0);
        }
        Check.refused(x, "fan(1)", x.fan(1), 2);
        Check.refused(x, "fan(0)", x.fan(0), 4);
        Check.same("size(0)", x.size(0), 0);
        Check.refused(x, "painted()", x.painted(), 1);
        // Objects are apart from one another.
        FanParts other = made(LEFT);
        Check.refused(x, "another one's FAN", x.painted(), 1);
        Check.answered(other, "that one's", other.painted(), 12);
    }

    private static void feed() {
        promise(2, "Twenty bytes come behind THE TAPE, of each number the highest first: how many it has;");
        FanParts x = new FanParts();
        // fan ribs 2 wide 3 pr|ice 0 opens even;rib
        Check.same("the first twenty", x.feed(1717661216, 1919509107, 540156023, 1768187168, 857763954), 20);
        Check.same("twenty more", x.feed(1768121632, 807432048, 1701737248, 1702258030, 0x20ffffff), 40);
        Check.answered(x, "the FAN fed", x.fan(37), 4);
        Check.same("from the start again", x.feed(-1, MIN, MAX, 0, 1), 20);
        Check.refused(x, "a byte 255", x.fan(20), 4);
        Check.same("at the first", x.where(), 0);

        promise(2, "NONE, and none comes, if there would be more than 900.");
        String last = ";rib x y";
        String fan = "fan ribs 2 wide 1 price 1 opens even";
        String text = fan + " ".repeat(900 - fan.length() - last.length()) + last;
        Check.feedText(x, text.substring(0, 880));
        Check.same("bytes", x.size(10), 880);
        Check.same("the last twenty", x.feed(BLANKS, BLANKS, BLANKS, 0x3b726962, 0x20782079), 900);
        Check.same("twenty too many", x.feed(0, 0, 0, 0, 0), -1);
        Check.same("and again", x.feed(-1, -1, -1, -1, -1), -1);
        Check.same("none came", x.size(10), 900);
        Check.refused(x, "fan(901)", x.fan(901), 2);
        Check.answered(x, "fan(900)", x.fan(900), 2);
        Check.same("its last byte", x.cell(1, 0, 0), 24);
        Check.same("room again", x.feed(0, 0, 0, 0, 0), 20);
    }

    private static void fan() {
        promise(3, "The first n bytes of THE TAPE (it is empty then) are the FAN from now on (NOW 0; nothing to undo, no IMAGES):"
            + " how many OPENINGS there are.");
        FanParts x = made(TOLD);
        x.open(3);
        x.image();
        x.paint(0, 0, 0, 25);
        Check.feedText(x, EVEN + ";?");
        Check.answered(x, "fan", x.fan(EVEN.length()), 4);
        int[] sizes = {3, 3, 0, 0, 0, 0, 0, 0, 0, 0, 0};
        for (int what = 0; what < sizes.length; what++) {
            Check.same("size(" + what + ")", x.size(what), sizes[what]);
        }
        Check.denied(x, "undo", x.undo(), 6);
        Check.denied(x, "back", x.back(0), 1);
        Check.same("painted as told", x.cell(0, 0, 0), 0);
        Check.answered(x, "even", Check.fanOf(x, "fan ribs 10 wide 1 price 0 opens even"), 2);
        Check.answered(x, "left", Check.fanOf(x, "fan ribs 10 wide 3 price 0 opens left"), 28);

        promise(3, "NONE: 2 (THE TAPE stays);");
        Check.feedText(x, LEFT);
        int bytes = x.size(10);
        for (int n : new int[] {-1, MIN, bytes + 1, 901, MAX}) {
            String before = Edges.state(x);
            Check.refused(x, "fan(" + n + ")", x.fan(n), 2);
            Check.same("nothing changes", before.equals(Edges.state(x)), true);
        }
        Check.answered(x, "the tape that stayed", x.fan(LEFT.length()), 5);
        Check.feedText(x, LEFT);
        Check.answered(x, "all of the tape", x.fan(x.size(10)), 5);
        FanParts none = new FanParts();
        Check.refused(none, "fan(0) of an empty tape is no wrong number", none.fan(0), 4);

        promise(3, "4 (the FAN stays).");
        x = made(TOLD);
        x.open(3);
        x.image();
        x.breaks(1, true);
        x.paint(0, 0, 0, 25);
        for (String text : new String[] {"", "?", "fan ribs 9 wide 1 price 0 opens even;rib a b;word x;wish x front 1;beat 1;beat 1"}) {
            int had = x.fault();
            String before = Edges.state(x).replaceAll(had + "$", "");
            Check.refused(x, "fan of " + text, Check.fanOf(x, text), 4);
            Check.same("tape is empty", x.size(10), 0);
            Check.same("the FAN stays", before.equals(Edges.state(x).replaceAll(x.fault() + "$", "")), true);
        }
        Check.same("sure stays", x.sure(0, 1, 0), 'x' - 'a');
        Check.same("wish stays", x.wish(1, 2), 4);
        Check.same("cost stays", x.cost(), 11);
        Check.allowed(x, "undo", x.undo());
        Check.same("undone", x.cell(0, 0, 0), 0);
        Check.allowed(x, "back", x.back(0));
        Check.same("mended", x.broken(1), 0);
    }

    private static void faultAndWhere() {
        promise(4, "The FAULT of the latest fan() not refused by 2; 0 without one.");
        FanParts x = new FanParts();
        Check.same("of none", x.fault(), 0);
        x.fan(1);
        Check.same("refused by 2 alone", x.fault(), 0);
        Check.fanOf(x, "rib");
        Check.same("a FAULT", x.fault(), 6);
        x.fan(-1);
        Check.same("behind 2", x.fault(), 6);
        x.painted();
        Check.same("behind other calls", x.fault(), 6);
        Check.fanOf(x, "fan ribs 1");
        Check.same("another", x.fault(), 4);
        Check.fanOf(x, LEFT);
        Check.same("none", x.fault(), 0);
        x.fan(-1);
        Check.same("none, behind 2", x.fault(), 0);

        promise(5, "Its place, if the latest call that may be refused was by 4; NONE else.");
        Check.same("behind 2", x.where(), -1);
        Check.fanOf(x, "fan ribs 1");
        Check.same("its place", x.where(), 9);
        Check.same("asked again", x.where(), 9);
        x.feed(0, 0, 0, 0, 0);
        x.size(0);
        x.trouble();
        x.fault();
        Check.noneLed(x, 0);
        Check.same("behind calls that tell no number", x.where(), 9);
        x.broken(0);
        Check.same("behind one that wasn't refused", x.where(), -1);
        Check.fanOf(x, "fan ribs 1");
        x.broken(9);
        Check.same("behind one refused by 1", x.where(), -1);
        Check.fanOf(x, "fan ribs 1");
        x.undo();
        Check.same("behind one refused by 6", x.where(), -1);
        Check.fanOf(x, LEFT);
        Check.same("behind a FAN", x.where(), -1);
        FanParts first = new FanParts();
        first.fan(0);
        Check.same("place 0", first.where(), 0);
    }

    // ---- what shows

    private static void cellAndBroken() {
        FanParts x = made("fan ribs 3 wide 2 price 1 opens left;rib ay zb;rib zz cd broken");
        promise(6, "The letter of a CELL (0 a, ..); -2 it is bare.");
        Check.answered(x, "a", x.cell(0, 0, 0), 0);
        Check.answered(x, "y", x.cell(0, 0, 1), 24);
        Check.answered(x, "z", x.cell(1, 0, 0), -2);
        Check.answered(x, "not told", x.cell(1, 2, 1), -2);
        Check.answered(x, "of a broken rib", x.cell(1, 1, 1), 3);
        promise(6, "NONE: 1 (SIDE, rib, CELL).");
        Edges.sides(x, "cell", side -> x.cell(side, 0, 0));
        Edges.ribs(x, "cell", rib -> x.cell(0, rib, 0));
        Edges.cells(x, "cell", cell -> x.cell(1, 2, cell));
        FanParts none = new FanParts();
        refusedWithout("cell", none.cell(0, 0, 0), none, 1);

        promise(7, "Whether a rib is broken: 1, 0.");
        Check.answered(x, "whole", x.broken(0), 0);
        Check.answered(x, "broken", x.broken(1), 1);
        Check.answered(x, "not told", x.broken(2), 0);
        promise(7, "NONE: 1.");
        Edges.ribs(x, "broken", x::broken);
        refusedWithout("broken", none.broken(0), none, 1);
    }

    private static void showsLetterAt() {
        FanParts x = made(LEFT);
        promise(8, "How many CELLS show.");
        Check.answered(x, "closed", x.shows(0, 0), 2);
        Check.answered(x, "open", x.shows(0, 4), 6);
        Check.answered(x, "the back", x.shows(1, 4), 4);
        promise(8, "NONE: 1 (SIDE); 2 (OPENING).");
        Edges.sides(x, "shows", side -> x.shows(side, 4));
        Edges.openings(x, "shows", opening -> x.shows(1, opening));
        Check.refused(x, "both wrong", x.shows(2, 5), 1);
        FanParts none = new FanParts();
        refusedWithout("shows", none.shows(0, 0), none, 1);

        promise(9, "The letter at a PLACE; -2 it is bare.");
        Check.answered(x, "the first", x.letter(0, 4, 0), 0);
        Check.answered(x, "the last", x.letter(0, 4, 5), 5);
        x.paint(0, 2, 1, 25);
        Check.answered(x, "bare", x.letter(0, 4, 5), -2);
        promise(9, "NONE: 1 (SIDE, PLACE); 2 (OPENING).");
        Edges.sides(x, "letter", side -> x.letter(side, 2, 1));
        Edges.openings(x, "letter", opening -> x.letter(0, opening, 1));
        Edges.bounds(x, "letter, PLACE", 1, 0, 2, place -> x.letter(0, 1, place));
        refusedWithout("letter", none.letter(0, 0, 0), none, 1);

        promise(10, "The CELL at a PLACE: wide times its rib and its number.");
        Check.answered(x, "front, first", x.at(0, 4, 0), 0);
        Check.answered(x, "front, last", x.at(0, 4, 5), 5);
        Check.answered(x, "front, top", x.at(0, 0, 1), 5);
        Check.answered(x, "back, first", x.at(1, 4, 0), 2);
        Check.answered(x, "back, last", x.at(1, 4, 3), 1);
        promise(10, "NONE: likewise.");
        Edges.sides(x, "at", side -> x.at(side, 2, 1));
        Edges.openings(x, "at", opening -> x.at(1, opening, 1));
        Edges.bounds(x, "at, PLACE", 1, 0, 3, place -> x.at(1, 4, place));
        refusedWithout("at", none.at(0, 0, 0), none, 1);
        x.breaks(0, true);
        Edges.refusedAt(x, "at, none shows", 1, new int[] {0, 1, -1}, place -> x.at(1, 0, place));
        Edges.refusedAt(x, "letter, none shows", 1, new int[] {0, 1, -1}, place -> x.letter(1, 0, place));
    }

    private static void shownAndRibs() {
        FanParts x = made(LEFT);
        promise(11, "The first OPENING at which a CELL shows on a SIDE; -2 if it never does.");
        int[][] front = {{1, 2}, {3, 4}, {0, 0}};
        int[][] back = {{0, 0}, {3, 4}, {-2, -2}};
        for (int rib = 0; rib < 3; rib++) {
            for (int cell = 0; cell < 2; cell++) {
                Check.answered(x, "shown, front", x.shown(0, rib, cell), front[rib][cell]);
                Check.answered(x, "shown, back", x.shown(1, rib, cell), back[rib][cell]);
            }
        }
        FanParts even = made(EVEN);
        Check.answered(even, "even, the last CELL", even.shown(0, 0, 2), 3);
        Check.answered(even, "even, the back's last rib", even.shown(1, 2, 0), 1);
        even.breaks(0, true);
        Check.answered(even, "broken", even.shown(0, 0, 2), -2);
        Check.answered(even, "beside a broken one", even.shown(1, 1, 0), 1);
        promise(11, "NONE: 1.");
        Edges.sides(x, "shown", side -> x.shown(side, 0, 0));
        Edges.ribs(x, "shown", rib -> x.shown(0, rib, 0));
        Edges.cells(x, "shown", cell -> x.shown(0, 0, cell));
        FanParts none = new FanParts();
        refusedWithout("shown", none.shown(0, 0, 0), none, 1);

        promise(12, "How many ribs show all of their CELLS on a SIDE.");
        int[] frontRibs = {1, 1, 2, 2, 3};
        int[] backRibs = {1, 1, 1, 1, 2};
        for (int opening = 0; opening < 5; opening++) {
            Check.answered(x, "ribs, front, at " + opening, x.ribs(0, opening), frontRibs[opening]);
            Check.answered(x, "ribs, back, at " + opening, x.ribs(1, opening), backRibs[opening]);
        }
        Check.answered(even, "with a broken one", even.ribs(0, 3), 2);
        Check.answered(even, "none", even.ribs(1, 2), 0);
        promise(12, "NONE: 1 (SIDE); 2 (OPENING).");
        Edges.sides(x, "ribs", side -> x.ribs(side, 0));
        Edges.openings(x, "ribs", opening -> x.ribs(0, opening));
        Check.refused(x, "both wrong", x.ribs(-1, -1), 1);
        refusedWithout("ribs", none.ribs(0, 0), none, 1);
    }

    private static void paintedAndCost() {
        FanParts x = made("fan ribs 2 wide 2 price 9 opens even;rib az zb broken;rib zz cc");
        promise(13, "How many CELLS are PAINTED.");
        Check.answered(x, "painted", x.painted(), 4);
        promise(14, "COST.");
        Check.answered(x, "cost", x.cost(), 36);
        x.paint(0, 0, 0, 25);
        Check.answered(x, "painted then", x.painted(), 3);
        Check.answered(x, "cost then", x.cost(), 27);
        FanParts bare = made("fan ribs 2 wide 1 price 99 opens even");
        Check.answered(bare, "none", bare.painted(), 0);
        Check.answered(bare, "no cost", bare.cost(), 0);
        FanParts none = new FanParts();
        promise(13, "NONE: 1 (no FAN).");
        refusedWithout("painted", none.painted(), none, 1);
        promise(14, "NONE: 1 (no FAN).");
        refusedWithout("cost", none.cost(), none, 1);
    }

    // ---- words

    private static void readsAndReadAt() {
        FanParts x = made("fan ribs 3 wide 2 price 1 opens even;rib ab ab;rib ab cd;rib ab ef;word ab;word ba;word c");
        // Front: ab, aaab, ababab. Back: ab, ecab, efcdab.
        promise(15, "From how many PLACES a word is READ.");
        Check.answered(x, "three", x.reads(0, 0, 2), 3);
        Check.answered(x, "one", x.reads(0, 0, 1), 1);
        Check.answered(x, "none", x.reads(1, 0, 1), 0);
        Check.answered(x, "the back", x.reads(2, 1, 1), 1);
        promise(16, "The first such PLACE; -2.");
        Check.answered(x, "the first of three", x.readAt(0, 0, 2), 0);
        Check.answered(x, "the third PLACE", x.readAt(0, 0, 1), 2);
        Check.answered(x, "none", x.readAt(1, 0, 1), -2);
        Check.answered(x, "the last PLACES", x.readAt(0, 1, 2), 4);
        promise(15, "NONE: 1 (word, SIDE); 2 (OPENING).");
        FanParts none = new FanParts();
        Edges.words(x, "reads", word -> x.reads(word, 0, 0));
        Edges.sides(x, "reads", side -> x.reads(0, side, 0));
        Edges.openings(x, "reads", opening -> x.reads(0, 0, opening));
        Check.refused(x, "word and OPENING wrong", x.reads(3, 0, 3), 1);
        Check.refused(x, "SIDE and OPENING wrong", x.reads(0, 2, 3), 1);
        refusedWithout("reads", none.reads(0, 0, 0), none, 1);
        promise(16, "NONE: likewise.");
        Edges.words(x, "readAt", word -> x.readAt(word, 0, 0));
        Edges.sides(x, "readAt", side -> x.readAt(0, side, 0));
        Edges.openings(x, "readAt", opening -> x.readAt(0, 0, opening));
        Check.refused(x, "word and OPENING wrong", x.readAt(3, 0, 3), 1);
        Check.refused(x, "SIDE and OPENING wrong", x.readAt(0, 2, 3), 1);
        refusedWithout("readAt", none.readAt(0, 0, 0), none, 1);
        FanParts wordless = made(LEFT);
        Check.refused(wordless, "reads, no words", wordless.reads(0, 0, 0), 1);
        Check.refused(wordless, "readAt, no words", wordless.readAt(0, 0, 0), 1);
    }

    private static void spansAndSpan() {
        FanParts x = made("fan ribs 3 wide 2 price 1 opens left;rib ab zz;rib cb zz;rib ca zz;word bca;word ca;word x");
        // Front: ca, aca, abca, abcca, abcbca.
        promise(17, "How many SPANS.");
        Check.answered(x, "two", x.spans(0, 0), 2);
        Check.answered(x, "one, of all OPENINGS", x.spans(1, 0), 1);
        Check.answered(x, "none", x.spans(2, 0), 0);
        Check.answered(x, "none on the back", x.spans(0, 1), 0);
        promise(17, "NONE: 1 (word, SIDE).");
        FanParts none = new FanParts();
        Edges.words(x, "spans", word -> x.spans(word, 0));
        Edges.sides(x, "spans", side -> x.spans(0, side));
        refusedWithout("spans", none.spans(0, 0), none, 1);

        promise(18, "The first (or the last) OPENING of the i-th SPAN.");
        Check.answered(x, "the first of the first", x.span(0, 0, 0, false), 2);
        Check.answered(x, "the last of the first", x.span(0, 0, 0, true), 2);
        Check.answered(x, "the first of the second", x.span(0, 0, 1, false), 4);
        Check.answered(x, "the last of the second", x.span(0, 0, 1, true), 4);
        Check.answered(x, "from the first OPENING", x.span(1, 0, 0, false), 0);
        Check.answered(x, "to the last OPENING", x.span(1, 0, 0, true), 4);
        promise(18, "NONE: 1.");
        Edges.words(x, "span", word -> word == 2 ? x.span(1, 0, 0, true) : x.span(word, 0, 0, true));
        Edges.bounds(x, "span, i", 1, 0, 1, i -> x.span(0, 0, i, false));
        Edges.refusedAt(x, "span, SIDE", 1, new int[] {-1, 2, MIN, MAX}, side -> x.span(0, side, 0, false));
        Edges.refusedAt(x, "span, of none", 1, new int[] {-1, 0, 1}, i -> x.span(2, 0, i, false));
        refusedWithout("span", none.span(0, 0, 0, false), none, 1);
    }

    private static void says() {
        FanParts x = made(LEFT + ";word ef;word a;word z;word abc;word gh;word cd");
        promise(19, "Words READ at an OPENING, as bits.");
        int[] front = {1, 3, 3, 11, 43};
        int[] back = {16, 16, 16, 16, 16};
        for (int opening = 0; opening < 5; opening++) {
            Check.answered(x, "front", x.says(0, opening), front[opening]);
            Check.answered(x, "back", x.says(1, opening), back[opening]);
        }
        FanParts wordless = made(LEFT);
        Check.answered(wordless, "no words", wordless.says(0, 0), 0);
        promise(19, "NONE: 1 (SIDE); 2 (OPENING).");
        Edges.sides(x, "says", side -> x.says(side, 0));
        Edges.openings(x, "says", opening -> x.says(0, opening));
        Check.refused(x, "both wrong", x.says(2, 5), 1);
        FanParts none = new FanParts();
        refusedWithout("says", none.says(0, 0), none, 1);
    }

    // ---- wishes

    private static void keptAndAllKept() {
        FanParts x = made(LEFT + ";wish ab front 2;wish ab front 1;wish gh back 0;wish ijgh back 4");
        promise(20, "Whether a wish is KEPT: 1, 0.");
        int[] kept = {1, 0, 1, 1};
        for (int i = 0; i < 4; i++) {
            Check.answered(x, "kept " + i, x.kept(i), kept[i]);
        }
        promise(20, "NONE: 1.");
        Edges.wishes(x, "kept", x::kept);
        FanParts none = new FanParts();
        refusedWithout("kept", none.kept(0), none, 1);
        promise(21, "Wishes KEPT, as bits.");
        Check.answered(x, "allKept", x.allKept(), 13);
        x.breaks(0, true);
        Check.answered(x, "none", x.allKept(), 0);
        FanParts wishless = made(LEFT);
        Check.answered(wishless, "no wishes", wishless.allKept(), 0);
        Check.refused(wishless, "no wish 0", wishless.kept(0), 1);
        promise(21, "NONE: 1 (no FAN).");
        refusedWithout("allKept", none.allKept(), none, 1);
    }

    private static void mistakes() {
        FanParts x = made("fan ribs 2 wide 2 price 1 opens even;rib ab ab;rib ab ab;word b;word ab;word z;wish b front 0;wish ab back 2");
        // Front and back: ab, aab, abab.
        promise(22, "How many MISTAKES.");
        Check.answered(x, "mistakes", x.mistakes(), 10);
        FanParts wordless = made(LEFT);
        Check.answered(wordless, "no words", wordless.mistakes(), 0);
        promise(22, "NONE: 1 (no FAN).");
        FanParts none = new FanParts();
        refusedWithout("mistakes", none.mistakes(), none, 1);
        promise(23, "The i-th MISTAKE, by OPENINGS, front ahead of back, words by numbers: 100 times the word, 50 times the SIDE and"
            + " the OPENING, all together.");
        int[] due = {100, 50, 150, 1, 101, 51, 151, 2, 102, 52};
        for (int i = 0; i < due.length; i++) {
            Check.answered(x, "mistake " + i, x.mistake(i), due[i]);
        }
        promise(23, "NONE: 1 (i).");
        Edges.bounds(x, "mistake", 1, 0, 9, x::mistake);
        Edges.refusedAt(wordless, "mistake, none", 1, new int[] {-1, 0, 1}, wordless::mistake);
        refusedWithout("mistake", none.mistake(0), none, 1);
        // The most there can be: six words at 28 OPENINGS on both SIDES.
        FanParts most = made("fan ribs 10 wide 3 price 1 opens left" + ";rib abc abc".repeat(10)
            + ";word a;word b;word c;word ab;word bc;word abc");
        Check.answered(most, "the most", most.mistakes(), 336);
        Check.answered(most, "the last", most.mistake(335), 577);
        Check.refused(most, "behind the last", most.mistake(336), 1);
    }

    private static void mends() {
        FanParts x = made(LEFT + ";wish abxd front 4;wish xef front 0;wish ax front 1;wish gx back 0");
        promise(24, "MEND of a wish.");
        int[] mend = {1, -2, 1, 1};
        int[] place = {0, -2, 0, 0};
        for (int i = 0; i < 4; i++) {
            Check.answered(x, "mend " + i, x.mend(i), mend[i]);
        }
        promise(25, "Its PLACE; -2.");
        for (int i = 0; i < 4; i++) {
            Check.answered(x, "mendAt " + i, x.mendAt(i), place[i]);
        }
        FanParts none = new FanParts();
        FanParts wishless = made(LEFT);
        promise(24, "NONE: 1.");
        Edges.wishes(x, "mend", x::mend);
        refusedWithout("mend", none.mend(0), none, 1);
        Check.refused(wishless, "mend, no wishes", wishless.mend(0), 1);
        promise(25, "NONE: 1.");
        Edges.wishes(x, "mendAt", x::mendAt);
        refusedWithout("mendAt", none.mendAt(0), none, 1);
        Check.refused(wishless, "mendAt, no wishes", wishless.mendAt(0), 1);

        promise(26, "MEND of all.");
        Check.answered(x, "one can't be", x.mendAll(), -2);
        Check.answered(wishless, "no wishes", wishless.mendAll(), 0);
        FanParts two = made(LEFT + ";wish abx front 4;wish gx back 0;wish abc front 4");
        // abcdef becomes abcabx, as abxabc would be dearer; gh becomes gx.
        Check.answered(two, "all", two.mendAll(), 3 + 1);
        Check.same("nothing is painted by it", two.cell(0, 1, 0), 2);
        promise(26, "NONE: 1 (no FAN).");
        refusedWithout("mendAll", none.mendAll(), none, 1);
    }

    private static void losesAndTreaty() {
        FanParts x = made(LEFT + ";word abef;word ef;wish ab front 4;wish ef front 0;wish abef front 4;wish ghi back 4");
        promise(27, "LOSES, as bits.");
        Check.answered(x, "rib 0", x.loses(0), 1);
        Check.answered(x, "rib 1", x.loses(1), 0);
        Check.answered(x, "rib 2", x.loses(2), 2);
        promise(27, "NONE: 1 (rib); 5 (it is broken).");
        Edges.ribs(x, "loses", x::loses);
        Check.same("nothing is broken by it", x.broken(2), 0);
        x.breaks(1, true);
        Check.answered(x, "with another one broken", x.loses(0), 5);
        Edges.refusedAt(x, "loses, broken", 5, new int[] {1}, x::loses);
        FanParts none = new FanParts();
        refusedWithout("loses", none.loses(0), none, 1);
        x.breaks(1, false);

        promise(28, "TREATY: the rib (or its OPENING: 50 times the SIDE and that); -2 if there is none.");
        Check.answered(x, "the rib", x.treaty(0, false), 1);
        Check.answered(x, "its OPENING", x.treaty(0, true), 3);
        Check.answered(x, "none", x.treaty(1, false), -2);
        Check.answered(x, "no OPENING", x.treaty(1, true), -2);
        Check.same("nothing is broken by it", x.broken(1), 0);
        FanParts back = made("fan ribs 3 wide 1 price 1 opens left;rib a a;rib b b;rib c c;word a");
        Check.answered(back, "READ now wherever it can be", back.treaty(0, true), -2);
        back = made("fan ribs 4 wide 1 price 1 opens left;rib a a;rib b b;rib c c;rib d d;word ca");
        Check.answered(back, "on the back", back.treaty(0, true), 53);
        Check.answered(back, "on the back, the rib", back.treaty(0, false), 1);
        promise(28, "NONE: 1 (word).");
        Edges.words(x, "treaty", word -> x.treaty(word, false));
        Edges.words(x, "treaty", word -> x.treaty(word, true));
        refusedWithout("treaty", none.treaty(0, true), none, 1);
    }

    private static void sever() {
        FanParts x = made(LEFT + ";word abef;word ef;word fe");
        promise(29, "SEVER: how many ribs (or they, as bits); -2 if it can't be.");
        Check.answered(x, "one rib", x.sever(0, 0, 4, false), 1);
        Check.answered(x, "which", x.sever(0, 0, 4, true), 2);
        Check.answered(x, "none needed", x.sever(1, 0, 4, false), 0);
        Check.answered(x, "none needed, which", x.sever(1, 0, 4, true), 0);
        Check.answered(x, "can't be", x.sever(2, 0, 4, false), -2);
        Check.answered(x, "can't be, which", x.sever(2, 0, 4, true), -2);
        Check.answered(x, "not so far open", x.sever(0, 0, 1, false), -2);
        Check.same("nothing is broken by it", x.broken(1), 0);
        promise(29, "NONE: 1 (word, SIDE); 2 (OPENING).");
        Edges.words(x, "sever", word -> x.sever(word, 0, 0, true));
        Edges.sides(x, "sever", side -> x.sever(0, side, 0, false));
        Edges.openings(x, "sever", opening -> x.sever(0, 0, opening, true));
        Check.refused(x, "word and OPENING wrong", x.sever(3, 0, 5, true), 1);
        Check.refused(x, "SIDE and OPENING wrong", x.sever(0, 2, 5, true), 1);
        FanParts none = new FanParts();
        refusedWithout("sever", none.sever(0, 0, 0, true), none, 1);
    }

    private static void pack() {
        FanParts x = made(LEFT + ";word abc;word z;word cde;word xyxy");
        promise(30, "PACK: 0 how many words, 1 they, as bits, 2 how long the row is.");
        Check.answered(x, "how many", x.pack(0), 2);
        Check.answered(x, "they", x.pack(1), 5);
        Check.answered(x, "how long", x.pack(2), 5);
        x.breaks(0, true);
        Check.answered(x, "of a whole fan", x.pack(2), 5);
        FanParts wordless = made(LEFT);
        for (int what = 0; what <= 2; what++) {
            Check.answered(wordless, "no words", wordless.pack(what), 0);
        }
        promise(30, "NONE: 1 (no FAN, none such).");
        Edges.bounds(x, "pack", 1, 0, 2, x::pack);
        FanParts none = new FanParts();
        refusedWithout("pack", none.pack(0), none, 1);
        refusedWithout("pack(3)", none.pack(3), none, 1);
    }

    // ---- what was seen

    private static void clashAndSure() {
        FanParts x = made(LEFT + ";seen front 4 from 0 abz;seen back 0 from 1 h;seen front 1 from 0 xy;seen back 0 from 0 g");
        promise(31, "CLASH; -2 if there is none.");
        Check.answered(x, "clash", x.clash(), 2);
        FanParts fine = made(LEFT + ";seen front 4 from 0 abz;seen back 0 from 1 h");
        Check.answered(fine, "none", fine.clash(), -2);
        promise(31, "NONE: 1 (no FAN).");
        FanParts none = new FanParts();
        refusedWithout("clash", none.clash(), none, 1);

        promise(32, "The letter that is SURE of a CELL; -2 it is sure to be bare, -3 it isn't SURE.");
        Check.answered(x, "a", x.sure(0, 0, 0), 0);
        Check.answered(x, "bare", x.sure(0, 1, 0), -2);
        Check.answered(x, "not SURE", x.sure(0, 1, 1), -3);
        Check.answered(x, "the back", x.sure(1, 0, 1), 7);
        Check.answered(x, "of the CLASH", x.sure(0, 2, 0), -3);
        Check.answered(x, "behind the CLASH", x.sure(1, 0, 0), -3);
        promise(32, "NONE: 1.");
        Edges.sides(x, "sure", side -> x.sure(side, 0, 0));
        Edges.ribs(x, "sure", rib -> x.sure(0, rib, 0));
        Edges.cells(x, "sure", cell -> x.sure(0, 0, cell));
        refusedWithout("sure", none.sure(0, 0, 0), none, 1);

        promise(33, "How many CELLS are SURE, on both SIDES.");
        Check.answered(x, "sureCells", x.sureCells(), 4);
        FanParts all = made("fan ribs 2 wide 1 price 1 opens even;seen front 1 from 0 zz;seen back 1 from 0 zz;seen back 1 from 0 z");
        Check.answered(all, "all", all.sureCells(), 4);
        FanParts blind = made(LEFT);
        Check.answered(blind, "none", blind.sureCells(), 0);
        promise(33, "NONE: 1 (no FAN).");
        refusedWithout("sureCells", none.sureCells(), none, 1);
    }

    private static void fitsAndAsk() {
        FanParts x = made(LEFT + ";seen front 4 from 0 abc;seen back 4 from 0 ij");
        promise(34, "FITS: 1, 0.");
        Check.answered(x, "fits", x.fits(), 1);
        x.breaks(0, true);
        Check.answered(x, "fits, broken", x.fits(), 1);
        x.paint(0, 0, 0, 25);
        Check.answered(x, "fits no more", x.fits(), 0);
        x.undo();
        Check.answered(x, "fits again", x.fits(), 1);
        promise(34, "NONE: 1 (no FAN).");
        FanParts none = new FanParts();
        refusedWithout("fits", none.fits(), none, 1);

        promise(35, "ASK: 50 times the SIDE and the OPENING; -2 if all that can show are SURE.");
        Check.answered(x, "the front", x.ask(), 4);
        FanParts back = made(LEFT + ";seen front 4 from 0 abcde");
        Check.answered(back, "the back", back.ask(), 54);
        FanParts last = made(LEFT + ";seen front 4 from 0 abcde;seen back 4 from 0 ijgh");
        Check.answered(last, "one CELL is left", last.ask(), 0);
        FanParts all = made(LEFT + ";seen front 4 from 0 abcdef;seen back 4 from 0 ijgh");
        Check.answered(all, "all", all.ask(), -2);
        FanParts clash = made(LEFT + ";seen front 4 from 0 abcde;seen back 4 from 0 ijgh;seen front 4 from 4 xy");
        Check.answered(clash, "a CLASH tells nothing", clash.ask(), 0);
        promise(35, "NONE: 1 (no FAN).");
        refusedWithout("ask", none.ask(), none, 1);
    }

    // ---- fluttering

    private static void smear() {
        FanParts x = made(LEFT);
        promise(36, "SMEAR.");
        Check.answered(x, "front", x.smear(0, 0, 4), 6);
        Check.answered(x, "back", x.smear(1, 0, 4), 4);
        Check.answered(x, "to itself", x.smear(1, 4, 4), 0);
        promise(36, "NONE: 1 (SIDE); 2 (OPENINGS).");
        Edges.sides(x, "smear", side -> x.smear(side, 0, 4));
        Edges.openings(x, "smear, from", from -> x.smear(0, from, 0));
        Edges.openings(x, "smear, to", to -> x.smear(1, 4, to));
        Check.refused(x, "all wrong", x.smear(2, 5, -1), 1);
        FanParts none = new FanParts();
        refusedWithout("smear", none.smear(0, 0, 0), none, 1);
    }

    private static void beatsAndCalm() {
        FanParts x = made(LEFT + ";beat 4,0,3");
        FanParts beatless = made(LEFT);
        FanParts none = new FanParts();
        promise(37, "SMEAR of BEATS.");
        Check.answered(x, "beats", x.beats(), 11);
        promise(37, "NONE: 1 (no FAN); 6 (no beats).");
        refusedWithout("beats", none.beats(), none, 1);
        Check.refused(beatless, "beats, none", beatless.beats(), 6);
        promise(38, "SMEAR of CALM.");
        Check.answered(x, "calm", x.calm(), 8);
        promise(38, "NONE: likewise.");
        refusedWithout("calm", none.calm(), none, 1);
        Check.refused(beatless, "calm, none", beatless.calm(), 6);
        promise(39, "The i-th beat of CALM, its number in the row told.");
        int[] due = {0, 2, 1};
        for (int i = 0; i < due.length; i++) {
            Check.answered(x, "calmAt " + i, x.calmAt(i), due[i]);
        }
        promise(39, "NONE: 1 (no FAN); 6; 1 (i).");
        refusedWithout("calmAt", none.calmAt(0), none, 1);
        Edges.refusedAt(beatless, "calmAt, no beats", 6, new int[] {0, -1, 9}, beatless::calmAt);
        Edges.bounds(x, "calmAt", 1, 0, 2, x::calmAt);
        FanParts six = made(LEFT + ";beat 0,1,2,3,4,0");
        Edges.bounds(six, "calmAt of six", 1, 0, 5, six::calmAt);
    }

    private static void flutters() {
        FanParts x = made(LEFT + ";word ef;word ab;word gh;word z;beat 4,0,3,0,1,2");
        promise(40, "Beats at which a word is READ on the front, as bits.");
        Check.answered(x, "all", x.flutters(0), 63);
        Check.answered(x, "some", x.flutters(1), 37);
        Check.answered(x, "the back doesn't count", x.flutters(2), 0);
        Check.answered(x, "a z", x.flutters(3), 0);
        promise(40, "NONE: 1 (word); 6 (no beats).");
        Edges.words(x, "flutters", x::flutters);
        FanParts beatless = made(LEFT + ";word ef");
        Edges.refusedAt(beatless, "flutters, no beats", 6, new int[] {0}, beatless::flutters);
        Edges.refusedAt(beatless, "flutters, no beats and no such word", 1, new int[] {1, -1}, beatless::flutters);
        FanParts none = new FanParts();
        refusedWithout("flutters", none.flutters(0), none, 1);
    }

    // ---- acts

    private static void paint() {
        FanParts x = made(LEFT);
        promise(41, "PAINT a CELL with a letter (0 .. 25; 25: bare): true;");
        Check.allowed(x, "y", x.paint(1, 2, 1, 24));
        Check.same("painted", x.cell(1, 2, 1), 24);
        Check.allowed(x, "bare", x.paint(1, 2, 1, 25));
        Check.same("painted bare", x.cell(1, 2, 1), -2);
        Check.allowed(x, "a", x.paint(1, 2, 1, 0));
        Check.same("painted", x.cell(1, 2, 1), 0);
        Check.same("nothing else", x.painted(), 12);
        Check.same("the other SIDE", x.cell(0, 2, 1), 5);
        promise(41, "false: 1 (SIDE, rib, CELL);");
        Edges.denied(x, "paint, SIDE", 1, 0, 1, side -> x.paint(side, 0, 0, 20));
        Edges.denied(x, "paint, rib", 1, 0, 2, rib -> x.paint(0, rib, 0, 20));
        Edges.denied(x, "paint, CELL", 1, 0, 1, cell -> x.paint(0, 0, cell, 20));
        Check.denied(x, "CELL and letter wrong", x.paint(0, 0, 2, 26), 1);
        FanParts none = new FanParts();
        Check.denied(none, "no FAN", none.paint(0, 0, 0, 0), 1);
        promise(41, "2;");
        Edges.denied(x, "paint, letter", 2, 0, 25, letter -> x.paint(0, 0, 0, letter));
        promise(41, "5 (it is that already).");
        Edges.denied(x, "paint, the same", 5, 0, 0, any -> x.paint(0, 0, 0, 0));
        Check.allowed(x, "bare", x.paint(0, 0, 0, 25));
        Edges.denied(x, "paint, bare already", 5, 0, 0, any -> x.paint(0, 0, 0, 25));
    }

    private static void breaks() {
        FanParts x = made(LEFT);
        promise(42, "BREAK a rib, or mend it: true;");
        for (int rib = 0; rib < 3; rib++) {
            Check.allowed(x, "break", x.breaks(rib, true));
            Check.same("broken", x.broken(rib), 1);
        }
        Check.same("nothing shows", x.shows(0, 4), 0);
        Check.allowed(x, "mend", x.breaks(1, false));
        Check.same("mended", x.broken(1), 0);
        Check.same("others stay", x.broken(0) + x.broken(2), 2);
        promise(42, "false: 1; 5 (it is so already).");
        Edges.denied(x, "breaks", 1, 0, 2, rib -> x.breaks(rib, true));
        Edges.denied(x, "mends", 1, 0, 2, rib -> x.breaks(rib, false));
        Edges.denied(x, "broken already", 5, 0, 0, any -> x.breaks(0, true));
        Edges.denied(x, "whole already", 5, 0, 0, any -> x.breaks(1, false));
        FanParts none = new FanParts();
        Check.denied(none, "no FAN", none.breaks(0, true), 1);
        Check.denied(none, "no FAN to mend", none.breaks(0, false), 1);
    }

    private static void open() {
        FanParts x = made(LEFT);
        promise(43, "OPEN: how many CELLS show on the front then.");
        int[] order = {4, 0, 1, 2, 3};
        int[] due = {6, 2, 3, 4, 5};
        for (int i = 0; i < order.length; i++) {
            Check.answered(x, "open " + order[i], x.open(order[i]), due[i]);
            Check.same("NOW", x.size(7), order[i]);
        }
        x.breaks(2, true);
        Check.answered(x, "none shows", x.open(0), 0);
        promise(43, "NONE: 1 (no FAN); 2; 5 (NOW is that already).");
        FanParts none = new FanParts();
        refusedWithout("open", none.open(0), none, 1);
        refusedWithout("open(-1)", none.open(-1), none, 1);
        Edges.refusedAt(x, "open", 2, new int[] {-1, 5, MIN, MAX}, x::open);
        Edges.refusedAt(x, "open, NOW", 5, new int[] {0}, x::open);
    }

    private static void flutter() {
        FanParts x = made(LEFT + ";beat 4,0,3");
        promise(44, "FLUTTER: SMEAR from NOW to the first beat, and of BEATS.");
        Check.answered(x, "from 0", x.flutter(), 6 + 11);
        Check.same("NOW", x.size(7), 3);
        Check.answered(x, "from 3", x.flutter(), 3 + 11);
        x.open(4);
        Check.answered(x, "from the first beat", x.flutter(), 11);
        FanParts one = made(LEFT + ";beat 0");
        Check.answered(one, "one beat, NOW", one.flutter(), 0);
        Check.same("it is an act", one.size(8), 1);
        promise(44, "NONE: 1 (no FAN); 6 (no beats).");
        FanParts none = new FanParts();
        refusedWithout("flutter", none.flutter(), none, 1);
        FanParts beatless = made(LEFT);
        Edges.refusedAt(beatless, "flutter, no beats", 6, new int[] {0}, any -> beatless.flutter());
    }

    private static void undo() {
        FanParts x = made(LEFT + ";beat 4,2");
        promise(45, "UNDO: true;");
        String[] states = new String[6];
        states[0] = Edges.state(x);
        x.paint(0, 0, 0, 25);
        states[1] = Edges.state(x);
        x.breaks(1, true);
        states[2] = Edges.state(x);
        x.open(1);
        states[3] = Edges.state(x);
        x.flutter();
        states[4] = Edges.state(x);
        x.breaks(1, false);
        for (int i = 4; i >= 0; i--) {
            Check.allowed(x, "undo", x.undo());
            Check.same("as ahead of act " + i, states[i].equals(Edges.state(x)), true);
        }
        promise(45, "false: 6.");
        Edges.denied(x, "undo", 6, 0, 0, any -> x.undo());
        x.paint(0, 0, 0, 0);
        x.breaks(0, false);
        x.open(0);
        x.image();
        Edges.denied(x, "refused acts and images aren't undone", 6, 0, 0, any -> x.undo());
        FanParts none = new FanParts();
        Check.denied(none, "no FAN", none.undo(), 6);
    }

    private static void imageAndBack() {
        FanParts x = made(LEFT);
        promise(46, "An IMAGE: its number.");
        String[] states = new String[3];
        for (int i = 0; i < 3; i++) {
            x.open(i + 1);
            x.paint(0, 0, i % 2, 20 + i);
            x.breaks(i, true);
            Check.answered(x, "image", x.image(), i);
            states[i] = Edges.state(x);
        }
        promise(46, "NONE: 1 (no FAN); 3.");
        FanParts none = new FanParts();
        refusedWithout("image", none.image(), none, 1);
        Edges.refusedAt(x, "image, a fourth", 3, new int[] {0, 0}, any -> x.image());

        promise(47, "All is as by an IMAGE (all IMAGES stay): true;");
        for (int i : new int[] {0, 2, 1, 1, 0}) {
            x.paint(1, 1, 1, 11 + i);
            Check.allowed(x, "back " + i, x.back(i));
            // What could be undone then, and how many IMAGES there were, doesn't come back.
            String due = states[i].replaceFirst("^((\\S+ ){8})\\S+ \\S+ ", "$10 3 ");
            Check.same("as by image " + i, Edges.state(x).equals(due), true);
        }
        promise(47, "false: 1.");
        x.open(4);
        Edges.denied(x, "back", 1, 0, 2, x::back);
        Check.denied(none, "no FAN", none.back(0), 1);
        FanParts imageless = made(LEFT);
        Edges.denied(imageless, "none yet", 1, 0, 0, any -> imageless.back(0));
        imageless.image();
        Edges.denied(imageless, "one alone", 1, 0, 0, imageless::back);
    }

    // ---- what is told

    private static void wish() {
        FanParts x = made(LEFT + ";wish a front 0;wish abcdefgh back 4;wish zz back 2");
        promise(48, "Of a wish 0 how many letters it has, 1 its SIDE, 2 its OPENING.");
        int[][] due = {{1, 0, 0}, {8, 1, 4}, {2, 1, 2}};
        for (int i = 0; i < 3; i++) {
            for (int what = 0; what < 3; what++) {
                Check.answered(x, "wish " + i + " " + what, x.wish(i, what), due[i][what]);
            }
        }
        promise(48, "NONE: 1.");
        Edges.wishes(x, "wish", i -> x.wish(i, 0));
        Edges.bounds(x, "wish, what", 1, 0, 2, what -> x.wish(0, what));
        FanParts none = new FanParts();
        refusedWithout("wish", none.wish(0, 0), none, 1);
    }

    private static void led() {
        FanParts x = made("fan ribs 3 wide 2 price 1 opens left;rib az zz broken;rib bc zz;rib zd zz");
        promise(49, "The i-th CELL of the front (wide times its rib and its number) that is bare.");
        Check.same("led(0), of a broken rib", x.led(0), 1);
        Check.same("led(1)", x.led(1), 4);
        promise(49, "NoSuchElementException if there is none such.");
        for (int i : new int[] {2, -1, MIN, MAX}) {
            Check.noneLed(x, i);
        }
        x.paint(0, 0, 1, 3);
        x.paint(0, 2, 0, 3);
        Check.noneLed(x, 0);
        Check.noneLed(new FanParts(), 0);
        FanParts bare = made("fan ribs 10 wide 3 price 1 opens left");
        Check.same("the last", bare.led(29), 29);
        Check.noneLed(bare, 30);
    }

    private static void size() {
        promise(50, "0 ribs, 1 wide, 2 1 if it opens from the left, 3 words, 4 wishes, 5 those seen, 6 beats, 7 NOW,"
            + " 8 ACTS that can be undone, 9 IMAGES, 10 bytes of THE TAPE.");
        FanParts x = made("fan ribs 4 wide 2 price 1 opens left;rib az zz;word a;word b;wish a back 2;seen back 0 from 0 zz;seen front 0 from 0 zz;"
            + "seen front 0 from 0 z;beat 1,2,3,4");
        x.open(5);
        x.image();
        x.image();
        x.paint(0, 0, 0, 1);
        x.breaks(0, true);
        x.feed(0, 0, 0, 0, 0);
        int[] due = {4, 2, 1, 2, 1, 3, 4, 5, 3, 2, 20};
        for (int what = 0; what < due.length; what++) {
            Check.same("size(" + what + ")", x.size(what), due[what]);
        }
        Check.same("even", made(EVEN).size(2), 0);
        promise(50, "NONE for others;");
        for (int what : new int[] {-1, 11, 12, MIN, MAX}) {
            Check.same("size(" + what + ")", x.size(what), -1);
            Check.same("no FAN: size(" + what + ")", new FanParts().size(what), -1);
        }
        promise(50, "0 for what there isn't.");
        FanParts bare = made("fan ribs 2 wide 1 price 0 opens even");
        FanParts none = new FanParts();
        for (int what = 0; what <= 10; what++) {
            Check.same("no FAN: size(" + what + ")", none.size(what), 0);
            Check.same("nothing told: size(" + what + ")", bare.size(what), what == 0 ? 2 : what == 1 ? 1 : 0);
        }
    }

    private static void trouble() {
        promise(51, "TROUBLE.");
        FanParts x = made(LEFT);
        Check.same("0", x.trouble(), 0);
        x.open(9);
        Check.same("2", x.trouble(), 2);
        Check.same("asked again", x.trouble(), 2);
        // Every call that tells a number leaves 0 when it isn't refused.
        Runnable[] calls = {() -> x.cell(0, 0, 0), () -> x.broken(0), () -> x.shows(0, 0), () -> x.letter(0, 0, 0), () -> x.at(0, 0, 0),
            () -> x.shown(0, 0, 0), () -> x.ribs(0, 0), x::painted, x::cost, () -> x.says(0, 0), x::allKept, x::mistakes, x::mendAll,
            () -> x.loses(0), () -> x.pack(0), x::clash, () -> x.sure(0, 0, 0), x::sureCells, x::fits, x::ask, () -> x.smear(0, 0, 0),
            () -> x.paint(0, 0, 0, 9), () -> x.breaks(0, true), () -> x.open(3), x::undo, x::image, () -> x.back(0)};
        for (int i = 0; i < calls.length; i++) {
            x.open(9);
            calls[i].run();
            Check.same("behind call " + i, x.trouble(), 0);
        }
    }
}
