/** Each promise by hand: ordinary inputs, the edges that the document names, and wrong inputs. */
public final class PromisesTest {
    private static final int MIN = Integer.MIN_VALUE;
    private static final int MAX = Integer.MAX_VALUE;
    // Front: mno, agmno, abghmno, abcghimno. Back: def, pjdef, pqjkdef, pqrjkldef.
    private static final String EVEN = "fan ribs 3 wide 3 price 7 opens even;rib abc def;rib ghi jkl;rib mno pqr";
    // Front: ef, aef, abef, abcef, abcdef. Back: gh, gh, gh, igh, ijgh.
    private static final String LEFT = "fan ribs 3 wide 2 price 1 opens left;rib ab gh;rib cd ij;rib ef kl";

    private PromisesTest() {
    }

    public static void main(String[] args) {
        newObject();
        feeds();
        fans();
        faultsAndPlaces();
        cells();
        showing();
        brokenTops();
        firstShown();
        wholeRibs();
        paintedAndCost();
        readings();
        spansOfWords();
        keptAndMistakes();
        mends();
        mendsOfAll();
        losses();
        treaties();
        severs();
        packs();
        sights();
        asks();
        smears();
        calms();
        paints();
        breaking();
        openingAndFluttering();
        undoing();
        images();
        wishesAndLed();
        sizes();
        troubles();
        withoutFan();
        Check.end();
    }

    private static FanParts fan(String text) {
        return Check.made(text);
    }

    // ---- 1 to 5

    private static void newObject() {
        FanParts x = new FanParts();
        for (int what = 0; what <= 10; what++) {
            Check.same("new: size(" + what + ")", x.size(what), 0);
        }
        Check.same("new: trouble()", x.trouble(), 0);
        Check.same("new: fault()", x.fault(), 0);
        Check.same("new: where()", x.where(), -1);
        Check.same("NONE", FanParts.NONE, -1);
    }

    private static void feeds() {
        FanParts x = new FanParts();
        Check.same("fan(1)", x.fan(1), -1);
        for (int i = 1; i <= 45; i++) {
            Check.same("feed " + i, x.feed(0x20202020, 0x20202020, 0x20202020, 0x20202020, 0x20202020), 20 * i);
        }
        Check.same("feed beyond", x.feed(0, 0, 0, 0, 0), -1);
        Check.same("a feed leaves TROUBLE", x.trouble(), 2);
        Check.same("bytes", x.size(10), 900);
        Check.refused(x, "fan(900) of blanks", x.fan(900), 4);
        Check.same("its end", x.where(), 900);
        Check.same("bytes then", x.size(10), 0);
        // The highest byte comes first: fan ribs 2 wide 3 pr, and so on.
        x.feed(1717661216, 1919509107, 540156023, 1768187168, 857763954);
        x.feed(1768121632, 807432048, 1701737248, 1702258030, 0x20ff8000);
        Check.answered(x, "fan(37)", x.fan(37), 4);
    }

    private static void fans() {
        FanParts x = fan(EVEN);
        Check.same("openings, even", x.size(0), 3);
        Check.answered(x, "left", Check.fanOf(x, LEFT), 5);
        Check.same("tape is empty", x.size(10), 0);
        x.open(3);
        x.image();
        x.paint(0, 0, 0, 1);
        Check.feedText(x, EVEN);
        int bytes = x.size(10);
        Check.refused(x, "fan(-1)", x.fan(-1), 2);
        Check.refused(x, "fan of more", x.fan(bytes + 1), 2);
        Check.refused(x, "fan(MAX)", x.fan(MAX), 2);
        Check.same("tape stays", x.size(10), bytes);
        Check.refused(x, "fan(0)", x.fan(0), 4);
        Check.same("tape is empty with a fault", x.size(10), 0);
        Check.same("FAN stays", x.size(1), 2);
        Check.same("NOW stays", x.size(7), 3);
        Check.same("acts stay", x.size(8), 2);
        Check.same("images stay", x.size(9), 1);
        Check.same("painting stays", x.cell(0, 0, 0), 1);
        Check.answered(x, "another", Check.fanOf(x, EVEN), 4);
        Check.same("NOW is 0", x.size(7), 0);
        Check.same("nothing to undo", x.undo(), false);
        Check.same("no images", x.back(0), false);
        Check.answered(x, "fewer LINES", Check.fanOf(x, "fan ribs 3 wide 3 price 7 opens even;rib abc def"), 4);
        Check.same("not told: bare", x.cell(0, 1, 0), -2);
        Check.same("not told: bare back", x.cell(1, 2, 2), -2);
        Check.same("not told: not broken", x.broken(2), 0);
        Check.feedText(x, LEFT);
        Check.feedText(x, EVEN);
        Check.answered(x, "first of two texts", x.fan(LEFT.length()), 5);
        Check.same("the rest is gone", x.size(10), 0);
    }

    private static void faultsAndPlaces() {
        FanParts x = fan(EVEN);
        Check.refused(x, "faulty", Check.fanOf(x, "fan ribs 2 wide 9"), 4);
        Check.same("fault()", x.fault(), 4);
        Check.same("where()", x.where(), 16);
        x.feed(0, 0, 0, 0, 0);
        x.size(3);
        x.trouble();
        Check.noneLed(x, 0);
        Check.same("where() stays behind calls without a number", x.where(), 16);
        x.painted();
        Check.same("where() behind a call", x.where(), -1);
        Check.same("fault() stays", x.fault(), 4);
        x.fan(-1);
        Check.same("where() behind 2", x.where(), -1);
        Check.same("fault() behind 2", x.fault(), 4);
        x.fan(0);
        Check.same("where() of the end", x.where(), 0);
        Check.same("fault() of nothing", x.fault(), 1);
        Check.fanOf(x, LEFT);
        Check.same("fault() of none", x.fault(), 0);
        Check.same("where() of none", x.where(), -1);
    }

    // ---- 6 to 14

    private static void cells() {
        FanParts x = fan("fan ribs 2 wide 2 price 1 opens even;rib ay zb;rib zz zz broken");
        Check.answered(x, "cell", x.cell(0, 0, 0), 0);
        Check.answered(x, "cell y", x.cell(0, 0, 1), 24);
        Check.answered(x, "cell bare", x.cell(1, 0, 0), -2);
        Check.answered(x, "cell of a broken rib", x.cell(1, 1, 1), -2);
        int[][] wrong = {{-1, 0, 0}, {2, 0, 0}, {0, -1, 0}, {0, 2, 0}, {0, 0, -1}, {0, 0, 2}, {MIN, MAX, MIN}, {0, MAX, 0}, {0, 0, MAX}};
        for (int[] w : wrong) {
            Check.refused(x, "cell", x.cell(w[0], w[1], w[2]), 1);
            Check.refused(x, "shown", x.shown(w[0], w[1], w[2]), 1);
            Check.refused(x, "sure", x.sure(w[0], w[1], w[2]), 1);
            Check.denied(x, "paint", x.paint(w[0], w[1], w[2], 99), 1);
        }
        Check.answered(x, "broken(0)", x.broken(0), 0);
        Check.answered(x, "broken(1)", x.broken(1), 1);
        Check.refused(x, "broken(2)", x.broken(2), 1);
        Check.refused(x, "broken(-1)", x.broken(-1), 1);
    }

    private static String shown(FanParts x, int side, int opening) {
        StringBuilder text = new StringBuilder();
        int count = x.shows(side, opening);
        for (int place = 0; place < count; place++) {
            int letter = x.letter(side, opening, place);
            text.append(letter < 0 ? '_' : (char) ('a' + letter));
        }
        return text.toString();
    }

    private static void row(FanParts x, int side, int opening, String want) {
        String got = shown(x, side, opening);
        Check.same("side " + side + " at " + opening + " shows " + got + ", due is " + want, got.equals(want), true);
    }

    private static void rows(FanParts x, int side, String... want) {
        for (int opening = 0; opening < want.length; opening++) {
            row(x, side, opening, want[opening]);
        }
        Check.refused(x, "shows beyond", x.shows(side, want.length), 2);
    }

    private static void showing() {
        FanParts x = fan(EVEN);
        rows(x, 0, "mno", "agmno", "abghmno", "abcghimno");
        rows(x, 1, "def", "pjdef", "pqjkdef", "pqrjkldef");
        Check.answered(x, "at front", x.at(0, 1, 1), 3);
        Check.answered(x, "at front, last", x.at(0, 1, 4), 8);
        Check.answered(x, "at back", x.at(1, 2, 1), 7);
        Check.answered(x, "at back, last", x.at(1, 2, 6), 2);
        x = fan(LEFT);
        rows(x, 0, "ef", "aef", "abef", "abcef", "abcdef");
        rows(x, 1, "gh", "gh", "gh", "igh", "ijgh");
        Check.answered(x, "at left", x.at(0, 1, 1), 4);
        Check.answered(x, "at left back", x.at(1, 3, 0), 2);
        Check.refused(x, "shows, side", x.shows(2, 0), 1);
        Check.refused(x, "shows, side ahead of opening", x.shows(-1, 9), 1);
        Check.refused(x, "shows, opening", x.shows(0, -1), 2);
        Check.refused(x, "letter, side", x.letter(2, 0, 0), 1);
        Check.refused(x, "letter, place", x.letter(0, 0, 2), 1);
        Check.refused(x, "letter, place -1", x.letter(0, 0, -1), 1);
        Check.refused(x, "letter, opening", x.letter(0, 5, 0), 2);
        Check.refused(x, "letter, opening ahead of place", x.letter(0, 5, 99), 2);
        Check.refused(x, "letter, MAX", x.letter(0, 4, MAX), 1);
        Check.refused(x, "at, side", x.at(-1, 0, 0), 1);
        Check.refused(x, "at, place", x.at(1, 4, 4), 1);
        Check.refused(x, "at, place MIN", x.at(1, 4, MIN), 1);
        Check.refused(x, "at, opening", x.at(1, MAX, 0), 2);
    }

    private static void brokenTops() {
        FanParts x = fan(EVEN);
        x.breaks(2, true);
        rows(x, 0, "", "ag", "abgh", "abcghi");
        rows(x, 1, "def", "jdef", "jkdef", "jkldef");
        x.breaks(0, true);
        rows(x, 0, "", "g", "gh", "ghi");
        rows(x, 1, "", "j", "jk", "jkl");
        x.breaks(2, false);
        rows(x, 0, "mno", "gmno", "ghmno", "ghimno");
        x = fan(LEFT);
        x.breaks(1, true);
        rows(x, 0, "ef", "aef", "abef", "abef", "abef");
        rows(x, 1, "gh", "gh", "gh", "gh", "gh");
    }

    private static void firstShown() {
        FanParts x = fan(EVEN);
        Check.answered(x, "shown, top", x.shown(0, 2, 2), 0);
        Check.answered(x, "shown, first cell", x.shown(0, 0, 0), 1);
        Check.answered(x, "shown, last cell", x.shown(0, 1, 2), 3);
        Check.answered(x, "shown, back top", x.shown(1, 0, 2), 0);
        Check.answered(x, "shown, back", x.shown(1, 2, 1), 2);
        x.breaks(2, true);
        Check.answered(x, "shown, broken", x.shown(0, 2, 2), -2);
        x = fan(LEFT);
        Check.answered(x, "shown, left", x.shown(0, 1, 1), 4);
        Check.answered(x, "shown, left back", x.shown(1, 1, 0), 3);
        Check.answered(x, "shown, left never", x.shown(1, 2, 0), -2);
    }

    private static void wholeRibs() {
        FanParts x = fan(EVEN);
        Check.answered(x, "ribs at 0", x.ribs(0, 0), 1);
        Check.answered(x, "ribs at 2", x.ribs(0, 2), 1);
        Check.answered(x, "ribs at 3", x.ribs(1, 3), 3);
        x.breaks(0, true);
        Check.answered(x, "ribs, back top broken", x.ribs(1, 2), 0);
        Check.answered(x, "ribs, one broken", x.ribs(0, 3), 2);
        x = fan(LEFT);
        Check.answered(x, "ribs, left", x.ribs(0, 3), 2);
        Check.answered(x, "ribs, left open", x.ribs(0, 4), 3);
        Check.answered(x, "ribs, left back", x.ribs(1, 2), 1);
        Check.refused(x, "ribs, side", x.ribs(2, 9), 1);
        Check.refused(x, "ribs, opening", x.ribs(0, 5), 2);
    }

    private static void paintedAndCost() {
        FanParts x = fan("fan ribs 3 wide 2 price 9 opens even;rib az zb broken;rib zz cc");
        Check.answered(x, "painted", x.painted(), 4);
        Check.answered(x, "cost", x.cost(), 36);
        x.paint(0, 0, 0, 25);
        x.paint(1, 2, 1, 3);
        x.paint(0, 2, 1, 3);
        Check.answered(x, "painted then", x.painted(), 5);
        Check.answered(x, "cost then", x.cost(), 45);
    }

    // ---- 15 to 19

    private static void readings() {
        FanParts x = fan("fan ribs 3 wide 2 price 1 opens even;rib aa za;rib aa aa;rib az bb;word aa;word z;word aaaaaa;word az;word bb");
        // Front: a_, aaa_, aaaaa_. Back: _a, ba_a, bbaa_a.
        Check.answered(x, "reads overlapping", x.reads(0, 0, 2), 4);
        Check.answered(x, "reads at 1", x.reads(0, 0, 1), 2);
        Check.answered(x, "reads none", x.reads(0, 0, 0), 0);
        Check.answered(x, "reads z", x.reads(1, 0, 0), 0);
        Check.answered(x, "reads az", x.reads(3, 0, 2), 0);
        Check.answered(x, "reads longer than shows", x.reads(2, 0, 0), 0);
        Check.answered(x, "reads back", x.reads(4, 1, 2), 1);
        Check.answered(x, "readAt", x.readAt(0, 1, 2), 2);
        Check.answered(x, "readAt first", x.readAt(0, 0, 2), 0);
        Check.answered(x, "readAt none", x.readAt(2, 0, 2), -2);
        Check.answered(x, "readAt z", x.readAt(1, 0, 0), -2);
        Check.answered(x, "says", x.says(1, 2), 17);
        Check.answered(x, "says front", x.says(0, 2), 1);
        Check.answered(x, "says none", x.says(0, 0), 0);
        Check.refused(x, "reads, word", x.reads(5, 0, 0), 1);
        Check.refused(x, "reads, word -1", x.reads(-1, 0, 9), 1);
        Check.refused(x, "reads, side", x.reads(0, 2, 9), 1);
        Check.refused(x, "reads, opening", x.reads(0, 0, 3), 2);
        Check.refused(x, "readAt, word", x.readAt(MAX, 0, 0), 1);
        Check.refused(x, "readAt, side", x.readAt(0, -1, 0), 1);
        Check.refused(x, "readAt, opening", x.readAt(0, 0, -1), 2);
        Check.refused(x, "says, side", x.says(2, 9), 1);
        Check.refused(x, "says, opening", x.says(1, 3), 2);
    }

    private static void spansOfWords() {
        FanParts x = fan("fan ribs 3 wide 2 price 1 opens left;rib ab zz;rib cb zz;rib ca zz;word bca;word abc;word ca;word bcb;word zz");
        // Front: ca, aca, abca, abcca, abcbca.
        Check.answered(x, "spans of two", x.spans(0, 0), 2);
        Check.answered(x, "span 0 first", x.span(0, 0, 0, false), 2);
        Check.answered(x, "span 0 last", x.span(0, 0, 0, true), 2);
        Check.answered(x, "span 1 first", x.span(0, 0, 1, false), 4);
        Check.answered(x, "span 1 last", x.span(0, 0, 1, true), 4);
        Check.answered(x, "spans of one", x.spans(1, 0), 1);
        Check.answered(x, "span first", x.span(1, 0, 0, false), 2);
        Check.answered(x, "span last", x.span(1, 0, 0, true), 4);
        Check.answered(x, "span of all, first", x.span(2, 0, 0, false), 0);
        Check.answered(x, "span of all, last", x.span(2, 0, 0, true), 4);
        Check.answered(x, "spans of none", x.spans(0, 1), 0);
        Check.answered(x, "spans of z", x.spans(4, 1), 0);
        Check.refused(x, "span beyond", x.span(0, 0, 2, false), 1);
        Check.refused(x, "span -1", x.span(0, 0, -1, false), 1);
        Check.refused(x, "span MAX", x.span(0, 0, MAX, true), 1);
        Check.refused(x, "span, word", x.span(5, 0, 0, true), 1);
        Check.refused(x, "span, side", x.span(0, 2, 0, true), 1);
        Check.refused(x, "spans, word", x.spans(-1, 0), 1);
        Check.refused(x, "spans, side", x.spans(0, 2), 1);
    }

    // ---- 20 to 30

    private static void keptAndMistakes() {
        FanParts x = fan("fan ribs 2 wide 2 price 1 opens even;rib ab cd;rib ab cd;word ab;word cd;word z;"
            + "wish ab front 1;wish cd back 2;wish a front 2;wish ab back 0");
        // Front: ab, aab, abab. Back: cd, ccd, cdcd.
        Check.answered(x, "kept", x.kept(0), 1);
        Check.answered(x, "kept 3", x.kept(3), 0);
        Check.refused(x, "kept 4", x.kept(4), 1);
        Check.refused(x, "kept -1", x.kept(-1), 1);
        Check.answered(x, "allKept", x.allKept(), 7);
        Check.answered(x, "mistakes", x.mistakes(), 4);
        int[] due = {0, 150, 151, 2};
        for (int i = 0; i < due.length; i++) {
            Check.answered(x, "mistake " + i, x.mistake(i), due[i]);
        }
        Check.refused(x, "mistake 4", x.mistake(4), 1);
        Check.refused(x, "mistake -1", x.mistake(-1), 1);
        x.paint(0, 1, 0, 25);
        Check.answered(x, "allKept then", x.allKept(), 6);
        Check.answered(x, "a wish's word needn't be told", x.kept(2), 1);
    }

    private static void mends() {
        FanParts x = fan("fan ribs 2 wide 2 price 1 opens even;rib ab zz;rib cz zz;wish bd front 2;wish abcd front 2;wish cc front 0;wish z front 2");
        // Front: c_, ac_, abc_.
        Check.answered(x, "mend of like ones", x.mend(0), 1);
        Check.answered(x, "mendAt, the first", x.mendAt(0), 1);
        Check.answered(x, "mend", x.mend(1), 1);
        Check.answered(x, "mendAt", x.mendAt(1), 0);
        Check.answered(x, "mend at 0", x.mend(2), 1);
        Check.answered(x, "mend of z", x.mend(3), -2);
        Check.answered(x, "mendAt of z", x.mendAt(3), -2);
        Check.refused(x, "mend 4", x.mend(4), 1);
        Check.refused(x, "mendAt -1", x.mendAt(-1), 1);
        x.breaks(1, true);
        Check.answered(x, "mend, too few show", x.mend(1), -2);
        Check.answered(x, "mendAt, too few show", x.mendAt(1), -2);
        Check.answered(x, "mend, none show", x.mend(2), -2);
        Check.answered(x, "mend, as many as show", x.mend(0), 2);
        x = fan("fan ribs 2 wide 1 price 1 opens even;rib b b;rib b b;wish a front 1");
        Check.answered(x, "mendAt of like ones", x.mendAt(0), 0);
        x = fan("fan ribs 3 wide 3 price 1 opens even;wish abcdefgh front 3;wish hgfedcba back 3;wish abc back 0");
        Check.answered(x, "mend of all letters", x.mend(0), 8);
        Check.answered(x, "mendAt of all letters", x.mendAt(0), 0);
        Check.answered(x, "mendAll of all letters", x.mendAll(), -2);
        x.breaks(0, true);
        Check.answered(x, "mend, all letters, too few show", x.mend(0), -2);
    }

    private static void mendsOfAll() {
        FanParts x = fan(EVEN);
        Check.answered(x, "mendAll without wishes", x.mendAll(), 0);
        x = fan("fan ribs 2 wide 2 price 1 opens even;rib zz zz;rib zz zz;wish abc front 2;wish bcd front 2");
        Check.answered(x, "shared cells count once", x.mendAll(), 4);
        x = fan("fan ribs 2 wide 2 price 1 opens even;rib zz zz;rib zz zz;wish abc front 2;wish dab back 2;wish cd back 2");
        Check.answered(x, "sides apart", x.mendAll(), 7);
        x = fan("fan ribs 2 wide 1 price 1 opens even;wish a front 0;wish b front 0");
        Check.answered(x, "contrary", x.mendAll(), -2);
        x = fan("fan ribs 2 wide 1 price 1 opens even;wish a front 0;wish z back 0");
        Check.answered(x, "z", x.mendAll(), -2);
        x = fan("fan ribs 2 wide 1 price 1 opens even;wish abc front 1");
        Check.answered(x, "too long", x.mendAll(), -2);
        // The cheapest place for one wish is not the one for both.
        x = fan("fan ribs 3 wide 1 price 1 opens even;rib a z;rib z z;rib b z;wish a front 1;wish cb front 1;wish ca front 1");
        Check.answered(x, "together", x.mendAll(), -2);
        x = fan("fan ribs 4 wide 1 price 1 opens even;rib a z;rib z z;rib b z;rib z z;wish cb front 1;wish ca front 1");
        Check.answered(x, "together in four", x.mendAll(), 4);
        x = fan("fan ribs 2 wide 3 price 1 opens even;rib abc zzz;rib dzz zzz;wish abcd front 3;wish dz front 3");
        Check.answered(x, "one has a z", x.mendAll(), -2);
        x = fan("fan ribs 2 wide 1 price 1 opens even;rib a b;rib b a;wish ab front 1;wish ab back 1;wish a back 1");
        Check.answered(x, "all are kept", x.mendAll(), 0);
        x.breaks(0, true);
        Check.answered(x, "not with a broken one", x.mendAll(), -2);
        // A dearer way is met first; the one that costs nothing comes behind it.
        x = fan("fan ribs 3 wide 1 price 1 opens left;rib c z;rib b z;rib a z;wish b front 2;wish a front 0");
        Check.answered(x, "the cheapest comes last", x.mendAll(), 0);
    }

    private static void losses() {
        FanParts x = fan("fan ribs 3 wide 1 price 1 opens even;rib a d;rib b e;rib c f;wish ab front 1;wish c front 0;wish ac front 1;wish fe back 1");
        Check.answered(x, "loses 0", x.loses(0), 1);
        Check.answered(x, "loses 1", x.loses(1), 9);
        Check.answered(x, "loses 2", x.loses(2), 10);
        Check.refused(x, "loses 3", x.loses(3), 1);
        Check.refused(x, "loses -1", x.loses(-1), 1);
        x.breaks(1, true);
        Check.refused(x, "loses, broken", x.loses(1), 5);
        Check.answered(x, "loses then", x.loses(0), 4);
        Check.same("nothing is broken by it", x.broken(0), 0);
    }

    private static void treaties() {
        FanParts x = fan("fan ribs 4 wide 1 price 1 opens even;rib a c;rib b b;rib c a;rib d d;word ac;word ab;word bd;word az;word ad");
        // Front: d, abcd. Back: c (rib 0), dabc.
        Check.answered(x, "treaty, front", x.treaty(0, false), 1);
        Check.answered(x, "treaty, opening", x.treaty(0, true), 1);
        Check.answered(x, "treaty of a word read now, none", x.treaty(1, false), -2);
        Check.answered(x, "treaty, its opening, none", x.treaty(1, true), -2);
        Check.answered(x, "treaty, third rib", x.treaty(2, false), 2);
        Check.answered(x, "treaty of z", x.treaty(3, false), -2);
        Check.answered(x, "treaty of two ribs", x.treaty(4, false), -2);
        x.breaks(1, true);
        Check.answered(x, "treaty goes on from broken ones", x.treaty(4, false), 2);
        Check.refused(x, "treaty, word", x.treaty(5, false), 1);
        Check.refused(x, "treaty, word -1", x.treaty(-1, true), 1);
        x = fan("fan ribs 3 wide 1 price 1 opens even;rib c c;rib b b;rib a a;word ca;word ac");
        Check.answered(x, "treaty, front first", x.treaty(0, true), 1);
        Check.answered(x, "treaty, back", x.treaty(1, true), 51);
        x = fan("fan ribs 3 wide 2 price 1 opens left;rib ab zz;rib cd zz;rib ef zz;word be");
        Check.answered(x, "treaty, read elsewhere already", x.treaty(0, true), 3);
        Check.answered(x, "treaty, the rib", x.treaty(0, false), 1);
    }

    private static void severs() {
        FanParts x = fan("fan ribs 4 wide 1 price 1 opens even;rib a a;rib b b;rib a a;rib c c;word ac;word abac;word cb;word z;word aa");
        Check.answered(x, "sever, none needed", x.sever(1, 0, 1, false), 0);
        Check.answered(x, "sever, none needed, bits", x.sever(1, 0, 1, true), 0);
        Check.answered(x, "sever one", x.sever(4, 0, 1, false), 1);
        Check.answered(x, "sever one, bits", x.sever(4, 0, 1, true), 2);
        Check.answered(x, "sever, back", x.sever(2, 1, 1, true), 4);
        Check.answered(x, "sever, never", x.sever(2, 0, 1, false), -2);
        Check.answered(x, "sever, never, bits", x.sever(2, 0, 1, true), -2);
        Check.answered(x, "sever z", x.sever(3, 0, 1, true), -2);
        x.breaks(2, true);
        Check.answered(x, "sever, more", x.sever(0, 0, 1, false), 1);
        Check.answered(x, "sever, without those broken", x.sever(0, 0, 1, true), 2);
        Check.refused(x, "sever, word", x.sever(5, 0, 0, true), 1);
        Check.refused(x, "sever, side", x.sever(0, 2, 9, true), 1);
        Check.refused(x, "sever, opening", x.sever(0, 0, 2, false), 2);
        x = fan("fan ribs 4 wide 1 price 1 opens even;rib a a;rib b b;rib b b;rib a a;word aba;word aa");
        Check.answered(x, "sever, the least bits", x.sever(0, 0, 1, true), 2);
        Check.answered(x, "sever, two", x.sever(1, 0, 1, false), 2);
        Check.answered(x, "sever, two, bits", x.sever(1, 0, 1, true), 6);
        x = fan("fan ribs 3 wide 1 price 1 opens even;rib a a;rib b b;rib c c;word a");
        Check.answered(x, "sever, the top is read", x.sever(0, 0, 0, false), -2);
    }

    private static void pack(String text, int count, int bits, int length) {
        FanParts x = fan(text);
        Check.answered(x, "pack(0) of " + text, x.pack(0), count);
        Check.answered(x, "pack(1) of " + text, x.pack(1), bits);
        Check.answered(x, "pack(2) of " + text, x.pack(2), length);
        Check.refused(x, "pack(3)", x.pack(3), 1);
        Check.refused(x, "pack(-1)", x.pack(-1), 1);
    }

    private static void packs() {
        String two = "fan ribs 2 wide 3 price 1 opens even;";
        pack(two + "rib abc abc", 0, 0, 0);
        pack(two + "word abcd;word cdef;word defg", 2, 6, 5);
        pack(two + "word abcd;word cdef;word bc", 3, 7, 6);
        pack(two + "word aza;word abcdefg;word ab", 1, 4, 2);
        pack(two + "word abcdef;word ab;word fa", 2, 6, 3);
        pack(two + "word ab;word cd;word ef;word gh", 3, 7, 6);
        pack(two + "word ca;word ab;word bc", 3, 7, 4);
        pack("fan ribs 10 wide 3 price 1 opens left;word abcdefgh;word hgfedcba;word bcd;word bab;word aaaaaa;word hh", 6, 63, 22);
    }

    // ---- 31 to 35

    private static void sights() {
        FanParts x = fan("fan ribs 2 wide 2 price 1 opens even;rib ab zz;rib zz zz broken;seen front 2 from 1 bz;seen back 0 from 0 z;"
            + "seen front 1 from 0 az;seen front 0 from 0 ca;seen back 0 from 1 q");
        Check.answered(x, "clash", x.clash(), 3);
        Check.answered(x, "sure", x.sure(0, 0, 1), 1);
        Check.answered(x, "sure, bare", x.sure(0, 1, 0), -2);
        Check.answered(x, "sure, third", x.sure(0, 0, 0), 0);
        Check.answered(x, "not sure, from the clash on", x.sure(0, 1, 1), -3);
        Check.answered(x, "not sure, behind the clash", x.sure(1, 0, 1), -3);
        Check.answered(x, "sure, back", x.sure(1, 0, 0), -2);
        Check.answered(x, "sureCells", x.sureCells(), 4);
        Check.answered(x, "fits", x.fits(), 0);
        x = fan("fan ribs 2 wide 2 price 1 opens even;rib ab zz;rib zz zz broken;seen front 2 from 1 bz;seen front 1 from 0 az");
        Check.answered(x, "no clash", x.clash(), -2);
        Check.answered(x, "fits, none taken as broken", x.fits(), 1);
        Check.answered(x, "sureCells, told twice", x.sureCells(), 3);
        x.paint(0, 1, 0, 3);
        Check.answered(x, "fits no more", x.fits(), 0);
        Check.answered(x, "sure stays", x.sure(0, 1, 0), -2);
        x = fan(EVEN);
        Check.answered(x, "nothing seen: clash", x.clash(), -2);
        Check.answered(x, "nothing seen: fits", x.fits(), 1);
        Check.answered(x, "nothing seen: sureCells", x.sureCells(), 0);
        Check.answered(x, "nothing seen: sure", x.sure(0, 0, 0), -3);
    }

    private static void asks() {
        FanParts x = fan(EVEN);
        Check.answered(x, "ask of nothing seen", x.ask(), 3);
        x = fan(LEFT + ";seen front 4 from 0 abcd");
        Check.answered(x, "ask, back", x.ask(), 54);
        x = fan(LEFT + ";seen front 4 from 0 ab;seen front 4 from 4 zz");
        Check.answered(x, "ask, most", x.ask(), 54);
        x = fan(LEFT + ";seen front 4 from 0 ab");
        Check.answered(x, "ask, like ones: the front", x.ask(), 4);
        x = fan(LEFT + ";seen front 4 from 0 abcd;seen back 4 from 0 ij");
        Check.answered(x, "ask, like ones: the least", x.ask(), 0);
        x = fan(LEFT + ";seen front 4 from 0 abcdef;seen back 4 from 0 ijgh");
        Check.answered(x, "ask, all that can show are sure", x.ask(), -2);
        x = fan("fan ribs 3 wide 2 price 1 opens left;rib ab gh broken;rib cd ij;rib ef kl broken;seen front 4 from 0 zz");
        Check.answered(x, "ask, of a whole fan", x.ask(), 4);
    }

    // ---- 36 to 40

    private static void smears() {
        FanParts x = fan("fan ribs 3 wide 2 price 1 opens left;rib ab zz;rib zz gh;rib ab ij;beat 2,0,4,4");
        // Front: ab, aab, abab, ab_ab, ab__ab. Back: __, __, __, g__, gh__.
        Check.answered(x, "smear", x.smear(0, 0, 1), 2);
        Check.answered(x, "smear back again", x.smear(0, 1, 0), 2);
        Check.answered(x, "smear to itself", x.smear(0, 3, 3), 0);
        Check.answered(x, "smear, bare ones alike", x.smear(0, 3, 4), 3);
        Check.answered(x, "smear, back", x.smear(1, 0, 2), 0);
        Check.answered(x, "smear, back 3", x.smear(1, 2, 3), 2);
        Check.answered(x, "smear, one alone", x.smear(0, 0, 2), 2);
        Check.answered(x, "beats", x.beats(), 2 + 4 + 0);
        Check.refused(x, "smear, side", x.smear(2, 9, 9), 1);
        Check.refused(x, "smear, from", x.smear(0, 5, 0), 2);
        Check.refused(x, "smear, to", x.smear(0, 0, 5), 2);
        Check.refused(x, "smear, to -1", x.smear(1, 0, -1), 2);
        x.breaks(2, true);
        // Front: "", a, ab, ab_, ab__.
        Check.answered(x, "smear, broken", x.smear(0, 0, 4), 4);
        Check.answered(x, "beats, broken", x.beats(), 6);
        x = fan(LEFT + ";beat 3");
        Check.answered(x, "one beat", x.beats(), 0);
        Check.answered(x, "one beat, calm", x.calm(), 0);
    }

    private static void calms() {
        FanParts x = fan(LEFT + ";word ab;word ef;word ij;beat 4,0,3,0");
        // ef, aef, abef, abcef, abcdef: 4-0 6, 4-3 3 (from e on), 3-0 5.
        Check.same("smear 4 0", x.smear(0, 4, 0), 6);
        Check.same("smear 4 3", x.smear(0, 4, 3), 3);
        Check.same("smear 3 0", x.smear(0, 3, 0), 5);
        Check.answered(x, "beats", x.beats(), 16);
        Check.answered(x, "calm", x.calm(), 8);
        int[] due = {0, 2, 1, 3};
        for (int i = 0; i < due.length; i++) {
            Check.answered(x, "calmAt " + i, x.calmAt(i), due[i]);
        }
        Check.refused(x, "calmAt 4", x.calmAt(4), 1);
        Check.refused(x, "calmAt -1", x.calmAt(-1), 1);
        Check.answered(x, "flutters", x.flutters(0), 5);
        Check.answered(x, "flutters at all", x.flutters(1), 15);
        Check.answered(x, "flutters on the front alone", x.flutters(2), 0);
        Check.refused(x, "flutters, word", x.flutters(3), 1);
        x = fan(LEFT + ";word ab");
        Check.refused(x, "beats, none", x.beats(), 6);
        Check.refused(x, "calm, none", x.calm(), 6);
        Check.refused(x, "calmAt, none", x.calmAt(-1), 6);
        Check.refused(x, "flutters, none", x.flutters(0), 6);
        Check.refused(x, "flutters, word ahead", x.flutters(1), 1);
        x = fan(LEFT + ";beat 2,2,2,2,2,2");
        Check.answered(x, "calm of like ones", x.calm(), 0);
        for (int i = 0; i < 6; i++) {
            Check.answered(x, "calmAt, like ones", x.calmAt(i), i);
        }
    }

    // ---- 41 to 47

    private static void paints() {
        FanParts x = fan(EVEN);
        Check.allowed(x, "paint", x.paint(0, 1, 2, 24));
        Check.same("painted", x.cell(0, 1, 2), 24);
        Check.same("other cells stay", x.cell(0, 1, 1), 7);
        Check.same("the back stays", x.cell(1, 1, 2), 11);
        Check.denied(x, "paint the same", x.paint(0, 1, 2, 24), 5);
        Check.allowed(x, "paint bare", x.paint(0, 1, 2, 25));
        Check.same("bare", x.cell(0, 1, 2), -2);
        Check.denied(x, "paint bare again", x.paint(0, 1, 2, 25), 5);
        Check.denied(x, "letter 26", x.paint(0, 1, 2, 26), 2);
        Check.denied(x, "letter -1", x.paint(0, 1, 2, -1), 2);
        Check.denied(x, "letter -2", x.paint(0, 1, 2, -2), 2);
        Check.same("acts", x.size(8), 2);
        x.breaks(1, true);
        Check.allowed(x, "paint a broken rib", x.paint(1, 1, 0, 0));
    }

    private static void breaking() {
        FanParts x = fan(EVEN);
        Check.denied(x, "mend a whole one", x.breaks(0, false), 5);
        Check.allowed(x, "break", x.breaks(0, true));
        Check.same("is broken", x.broken(0), 1);
        Check.same("others aren't", x.broken(1), 0);
        Check.denied(x, "break again", x.breaks(0, true), 5);
        Check.allowed(x, "mend", x.breaks(0, false));
        Check.same("is whole", x.broken(0), 0);
        Check.denied(x, "rib 3", x.breaks(3, true), 1);
        Check.denied(x, "rib -1", x.breaks(-1, false), 1);
        Check.denied(x, "rib 32", x.breaks(32, false), 1);
        Check.same("acts", x.size(8), 2);
    }

    private static void openingAndFluttering() {
        FanParts x = fan(LEFT + ";beat 4,0,3");
        Check.refused(x, "open(0), NOW", x.open(0), 5);
        Check.answered(x, "open", x.open(3), 5);
        Check.same("NOW", x.size(7), 3);
        Check.refused(x, "open again", x.open(3), 5);
        Check.refused(x, "open(5)", x.open(5), 2);
        Check.refused(x, "open(-1)", x.open(-1), 2);
        Check.answered(x, "flutter", x.flutter(), 3 + 6 + 5);
        Check.same("NOW is the last beat", x.size(7), 3);
        Check.same("acts", x.size(8), 2);
        x.open(0);
        Check.answered(x, "flutter from 0", x.flutter(), 6 + 6 + 5);
        x.breaks(2, true);
        Check.answered(x, "open, broken", x.open(0), 0);
        x = fan(LEFT);
        Check.refused(x, "flutter, no beats", x.flutter(), 6);
    }

    private static void undoing() {
        FanParts x = fan(LEFT + ";beat 4,2");
        x.open(1);
        x.paint(1, 0, 0, 25);
        x.breaks(1, true);
        x.flutter();
        Check.same("NOW", x.size(7), 2);
        Check.allowed(x, "undo flutter", x.undo());
        Check.same("NOW", x.size(7), 1);
        Check.same("still broken", x.broken(1), 1);
        Check.allowed(x, "undo break", x.undo());
        Check.same("whole", x.broken(1), 0);
        Check.same("still painted", x.cell(1, 0, 0), -2);
        Check.allowed(x, "undo paint", x.undo());
        Check.same("as before", x.cell(1, 0, 0), 6);
        Check.allowed(x, "undo open", x.undo());
        Check.same("NOW", x.size(7), 0);
        Check.denied(x, "undo nothing", x.undo(), 6);
        for (int i = 0; i < 20; i++) {
            Check.same("paint " + i, x.paint(0, 0, 0, i + 3), true);
            Check.same("acts", x.size(8), Math.min(16, i + 1));
        }
        for (int i = 0; i < 16; i++) {
            Check.allowed(x, "undo " + i, x.undo());
        }
        Check.same("sixteen are undone", x.cell(0, 0, 0), 3 + 3);
        Check.denied(x, "undo the seventeenth", x.undo(), 6);
        x.paint(0, 0, 0, 6);
        Check.denied(x, "a refused act isn't kept", x.undo(), 6);
    }

    private static void images() {
        FanParts x = fan(EVEN);
        Check.denied(x, "back, none", x.back(0), 1);
        Check.answered(x, "image 0", x.image(), 0);
        x.paint(0, 0, 0, 25);
        x.breaks(1, true);
        x.open(2);
        Check.answered(x, "image 1", x.image(), 1);
        Check.same("an image is no act", x.size(8), 3);
        x.open(1);
        Check.answered(x, "image 2", x.image(), 2);
        Check.refused(x, "image 3", x.image(), 3);
        Check.same("images", x.size(9), 3);
        Check.denied(x, "back 3", x.back(3), 1);
        Check.denied(x, "back -1", x.back(-1), 1);
        Check.same("acts stay when refused", x.size(8), 4);
        Check.allowed(x, "back 0", x.back(0));
        Check.same("cell", x.cell(0, 0, 0), 0);
        Check.same("broken", x.broken(1), 0);
        Check.same("NOW", x.size(7), 0);
        Check.denied(x, "nothing to undo", x.undo(), 6);
        Check.same("images stay", x.size(9), 3);
        x.paint(0, 0, 0, 9);
        Check.allowed(x, "back 1", x.back(1));
        Check.same("cell", x.cell(0, 0, 0), -2);
        Check.same("broken", x.broken(1), 1);
        Check.same("NOW", x.size(7), 2);
        Check.allowed(x, "an image is not changed by acts", x.back(0));
        Check.same("cell", x.cell(0, 0, 0), 0);
    }

    // ---- 48 to 51

    private static void wishesAndLed() {
        FanParts x = fan("fan ribs 2 wide 2 price 1 opens left;rib az zz broken;rib zb aa;wish abcdefgh back 2;wish z front 1");
        Check.answered(x, "wish letters", x.wish(0, 0), 8);
        Check.answered(x, "wish side", x.wish(0, 1), 1);
        Check.answered(x, "wish opening", x.wish(0, 2), 2);
        Check.answered(x, "wish 1 letters", x.wish(1, 0), 1);
        Check.answered(x, "wish 1 side", x.wish(1, 1), 0);
        Check.refused(x, "wish 2", x.wish(2, 0), 1);
        Check.refused(x, "wish -1", x.wish(-1, 0), 1);
        Check.refused(x, "wish, what 3", x.wish(0, 3), 1);
        Check.refused(x, "wish, what -1", x.wish(0, -1), 1);
        Check.same("led(0)", x.led(0), 1);
        Check.same("led(1)", x.led(1), 2);
        Check.noneLed(x, 2);
        Check.noneLed(x, -1);
        Check.noneLed(x, MIN);
        Check.noneLed(x, MAX);
        Check.same("led leaves TROUBLE", x.trouble(), 1);
        x.paint(0, 0, 1, 4);
        Check.same("led(0) then", x.led(0), 2);
        Check.noneLed(x, 1);
        Check.same("led leaves TROUBLE 0", x.trouble(), 0);
    }

    private static void sizes() {
        FanParts x = fan("fan ribs 4 wide 2 price 1 opens left;rib az zz;word a;word b;wish a back 2;seen back 0 from 0 zz;seen front 0 from 0 zz;"
            + "seen front 0 from 0 z;beat 1,2,3,4");
        x.open(5);
        x.image();
        x.feed(0, 0, 0, 0, 0);
        int[] due = {4, 2, 1, 2, 1, 3, 4, 5, 1, 1, 20};
        for (int what = 0; what < due.length; what++) {
            Check.same("size(" + what + ")", x.size(what), due[what]);
        }
        Check.same("size(11)", x.size(11), -1);
        Check.same("size(-1)", x.size(-1), -1);
        Check.same("size(MIN)", x.size(MIN), -1);
        Check.same("size leaves TROUBLE", x.trouble(), 0);
        Check.same("even", fan(EVEN).size(2), 0);
    }

    private static void troubles() {
        FanParts x = fan(EVEN);
        x.open(9);
        Check.same("trouble", x.trouble(), 2);
        Check.same("trouble stays", x.trouble(), 2);
        x.size(99);
        x.feed(0, 0, 0, 0, 0);
        x.fault();
        x.where();
        Check.same("trouble stays behind calls without a number", x.trouble(), 2);
        x.mistakes();
        Check.same("trouble is over", x.trouble(), 0);
    }

    private static void withoutFan() {
        FanParts x = new FanParts();
        int[] got = {x.cell(0, 0, 0), x.broken(0), x.shows(0, 0), x.letter(0, 0, 0), x.at(0, 0, 0), x.shown(0, 0, 0), x.ribs(0, 0),
            x.painted(), x.cost(), x.reads(0, 0, 0), x.readAt(0, 0, 0), x.spans(0, 0), x.span(0, 0, 0, true), x.says(0, 0), x.kept(0),
            x.allKept(), x.mistakes(), x.mistake(0), x.mend(0), x.mendAt(0), x.mendAll(), x.loses(0), x.treaty(0, true),
            x.sever(0, 0, 0, true), x.pack(0), x.clash(), x.sure(0, 0, 0), x.sureCells(), x.fits(), x.ask(), x.smear(0, 0, 0),
            x.beats(), x.calm(), x.calmAt(0), x.flutters(0), x.open(0), x.flutter(), x.image(), x.wish(0, 0)};
        for (int i = 0; i < got.length; i++) {
            Check.same("without a FAN, call " + i, got[i], -1);
        }
        Check.refused(x, "painted", x.painted(), 1);
        Check.refused(x, "cost", x.cost(), 1);
        Check.refused(x, "shows", x.shows(0, 0), 1);
        Check.refused(x, "allKept", x.allKept(), 1);
        Check.refused(x, "mistakes", x.mistakes(), 1);
        Check.refused(x, "mendAll", x.mendAll(), 1);
        Check.refused(x, "pack", x.pack(0), 1);
        Check.refused(x, "clash", x.clash(), 1);
        Check.refused(x, "sureCells", x.sureCells(), 1);
        Check.refused(x, "fits", x.fits(), 1);
        Check.refused(x, "ask", x.ask(), 1);
        Check.refused(x, "beats", x.beats(), 1);
        Check.refused(x, "calm", x.calm(), 1);
        Check.refused(x, "calmAt", x.calmAt(0), 1);
        Check.refused(x, "open", x.open(0), 1);
        Check.refused(x, "flutter", x.flutter(), 1);
        Check.refused(x, "image", x.image(), 1);
        Check.denied(x, "paint", x.paint(0, 0, 0, 0), 1);
        Check.denied(x, "breaks", x.breaks(0, true), 1);
        Check.denied(x, "undo", x.undo(), 6);
        Check.denied(x, "back", x.back(0), 1);
        Check.noneLed(x, 0);
    }
}
