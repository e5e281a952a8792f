import java.util.ArrayList;
import java.util.List;
import java.util.NoSuchElementException;
import java.util.Random;

/** Random runs of calls, always the same ones, held against the oracle. */
public final class RandomTest {
    private static final int RUNS = 1500;
    private static final int CALLS = 512;
    private final Random random;
    private final FanParts x = new FanParts();
    private final Oracle y = new Oracle();
    private final String run;
    private int calls = 0;

    private RandomTest(int seed) {
        random = new Random(seed);
        run = "run " + seed;
    }

    public static void main(String[] args) {
        for (int seed = 0; seed < RUNS; seed++) {
            new RandomTest(seed).all();
        }
        Check.end();
    }

    private void all() {
        if (random.nextInt(4) == 0) {
            someCalls(20);
        }
        while (calls < CALLS) {
            tellFan();
            someCalls(40 + random.nextInt(200));
        }
    }

    private int upTo(int n) {
        return random.nextInt(n + 1);
    }

    // ---- texts

    private String letters(int least, int most) {
        StringBuilder word = new StringBuilder();
        int length = least + upTo(most - least);
        String signs = List.of("ab", "ab", "ab", "abcz", "aabc", "cdefghy").get(random.nextInt(6));
        for (int i = 0; i < length; i++) {
            word.append(random.nextInt(60) == 0 ? 'z' : signs.charAt(random.nextInt(signs.length())));
        }
        return word.toString();
    }

    private String shortWord() {
        return random.nextInt(6) == 0 ? letters(1, 8) : letters(1, 4);
    }

    private String view(int openings) {
        return (random.nextBoolean() ? "front " : "back ") + random.nextInt(openings);
    }

    private String text() {
        int ribs = random.nextInt(5) == 0 ? 2 + upTo(8) : 2 + upTo(3);
        int wide = 1 + upTo(2);
        boolean left = random.nextBoolean();
        int openings = left ? wide * (ribs - 1) + 1 : wide + 1;
        List<String> lines = new ArrayList<>();
        int told = random.nextInt(4) == 0 ? upTo(ribs) : ribs;
        for (int i = 0; i < told; i++) {
            String broken = random.nextInt(6) == 0 ? " broken" : "";
            lines.add("rib " + letters(wide, wide) + " " + letters(wide, wide) + broken);
        }
        int words = upTo(6);
        for (int i = 0; i < words; i++) {
            lines.add(random.nextInt(lines.size() + 1), "word " + shortWord());
        }
        int wishes = upTo(4);
        for (int i = 0; i < wishes; i++) {
            lines.add(random.nextInt(lines.size() + 1), "wish " + shortWord() + " " + view(openings));
        }
        int seen = upTo(6);
        for (int i = 0; i < seen; i++) {
            int opening = random.nextInt(openings);
            String side = random.nextBoolean() ? "front " : "back ";
            lines.add(random.nextInt(lines.size() + 1),
                "seen " + side + opening + " from " + random.nextInt(wide) + " " + letters(1, random.nextInt(3) == 0 ? 4 : 2));
        }
        if (random.nextInt(4) != 0) {
            StringBuilder beat = new StringBuilder("beat " + random.nextInt(openings));
            int more = upTo(5);
            for (int i = 0; i < more; i++) {
                beat.append(random.nextBoolean() ? "," : " , ").append(random.nextInt(openings));
            }
            lines.add(random.nextInt(lines.size() + 1), beat.toString());
        }
        lines.add(0, "fan ribs " + ribs + " wide " + wide + " price " + upTo(99) + " opens " + (left ? "left" : "even"));
        return spoiled(lines);
    }

    private String spoiled(List<String> lines) {
        int what = random.nextInt(10);
        if (what == 0) {
            lines.add(random.nextInt(lines.size() + 1), lines.get(random.nextInt(lines.size())));
        } else if (what == 1) {
            lines.remove(random.nextInt(lines.size()));
        }
        String text = String.join(random.nextBoolean() ? ";" : " ; ", lines);
        if (what == 2 || what == 3) {
            StringBuilder spoiled = new StringBuilder(text);
            for (int i = upTo(2); i >= 0 && spoiled.length() > 0; i--) {
                char sign = " ;,;,019az9zA\u0080\u0000?".charAt(random.nextInt(16));
                int at = random.nextInt(spoiled.length());
                if (random.nextBoolean()) {
                    spoiled.setCharAt(at, sign);
                } else if (random.nextBoolean()) {
                    spoiled.insert(at, sign);
                } else {
                    spoiled.deleteCharAt(at);
                }
            }
            text = spoiled.toString();
        }
        return what == 4 ? text.substring(0, upTo(text.length())) : text;
    }

    // ---- calls

    private void same(String call, long got, long want) {
        calls++;
        Check.same(run + ", call " + calls + ", " + call, got, want);
        Check.same(run + ", call " + calls + ", behind " + call + ", trouble()", x.trouble(), y.trouble);
    }

    private void same(String call, boolean got, boolean want) {
        same(call, got ? 1 : 0, want ? 1 : 0);
    }

    private void tellFan() {
        String text = text();
        for (int from = 0; from < text.length(); from += 20) {
            int[] n = new int[5];
            for (int i = 0; i < 20; i++) {
                n[i / 4] = n[i / 4] << 8 | (from + i < text.length() ? text.charAt(from + i) & 255 : ' ');
            }
            same("feed", x.feed(n[0], n[1], n[2], n[3], n[4]), y.feed(n[0], n[1], n[2], n[3], n[4]));
        }
        int n = random.nextInt(20) == 0 ? text.length() + 30 : text.length();
        same("fan of " + text, x.fan(n), y.fan(n));
        same("fault of " + text, x.fault(), y.fault);
        same("where of " + text, x.where(), y.where());
        for (int what = 0; what <= 10; what++) {
            same("size(" + what + ")", x.size(what), y.size(what));
        }
    }

    private int side() {
        return random.nextInt(15) == 0 ? random.nextInt(5) - 2 : random.nextInt(2);
    }

    private int number(int most) {
        int n = random.nextInt(200);
        return n == 0 ? Integer.MAX_VALUE : n == 1 ? Integer.MIN_VALUE : random.nextInt(Math.max(0, most) + 2) - (n < 8 ? 1 : 0);
    }

    private int opening() {
        return number(y.told == null ? 3 : y.told.openings() - 1);
    }

    private int rib() {
        return number(y.told == null ? 3 : y.told.ribs - 1);
    }

    private int cell() {
        return number(y.told == null ? 3 : y.told.wide - 1);
    }

    private int word() {
        return number(y.told == null ? 3 : y.told.words.size() - 1);
    }

    private int wish() {
        return number(y.told == null ? 3 : y.told.wishes.size() - 1);
    }

    private void someCalls(int count) {
        for (int i = 0; i < count && calls < CALLS; i++) {
            switch (random.nextInt(5)) {
                case 0 -> askWhatShows();
                case 1 -> askWords();
                case 2 -> askWishes();
                case 3 -> askSeenAndBeats();
                default -> act();
            }
            if (random.nextInt(10) == 0) {
                same("where()", x.where(), y.where());
                same("fault()", x.fault(), y.fault);
                int what = random.nextInt(14) - 1;
                same("size(" + what + ")", x.size(what), y.size(what));
            }
        }
    }

    private void askWhatShows() {
        int s = side();
        int o = opening();
        int r = rib();
        int c = cell();
        int p = number(8);
        switch (random.nextInt(10)) {
            case 0 -> same("cell " + s + " " + r + " " + c, x.cell(s, r, c), y.cell(s, r, c));
            case 1 -> same("broken " + r, x.broken(r), y.broken(r));
            case 2 -> same("shows " + s + " " + o, x.shows(s, o), y.shows(s, o));
            case 3 -> same("letter " + s + " " + o + " " + p, x.letter(s, o, p), y.letter(s, o, p));
            case 4 -> same("at " + s + " " + o + " " + p, x.at(s, o, p), y.at(s, o, p));
            case 5 -> same("shown " + s + " " + r + " " + c, x.shown(s, r, c), y.shown(s, r, c));
            case 6 -> same("ribs " + s + " " + o, x.ribs(s, o), y.ribs(s, o));
            case 7 -> same("painted", x.painted(), y.painted());
            case 8 -> same("cost", x.cost(), y.cost());
            default -> same("led " + p, led(p), y.led(p));
        }
    }

    private int led(int i) {
        try {
            return x.led(i);
        } catch (NoSuchElementException e) {
            return -1;
        }
    }

    private void askWords() {
        int w = word();
        int s = side();
        int o = opening();
        int i = number(2);
        boolean last = random.nextBoolean();
        switch (random.nextInt(6)) {
            case 0 -> same("reads " + w + " " + s + " " + o, x.reads(w, s, o), y.reads(w, s, o));
            case 1 -> same("readAt " + w + " " + s + " " + o, x.readAt(w, s, o), y.readAt(w, s, o));
            case 2 -> same("spans " + w + " " + s, x.spans(w, s), y.spans(w, s));
            case 3 -> same("span " + w + " " + s + " " + i + " " + last, x.span(w, s, i, last), y.span(w, s, i, last));
            case 4 -> same("says " + s + " " + o, x.says(s, o), y.says(s, o));
            default -> {
                int ww = wish();
                int what = number(2);
                same("wish " + ww + " " + what, x.wish(ww, what), y.wish(ww, what));
            }
        }
    }

    private void askWishes() {
        int w = word();
        int h = wish();
        int r = rib();
        int i = number(20);
        boolean which = random.nextBoolean();
        switch (random.nextInt(11)) {
            case 0 -> same("kept " + h, x.kept(h), y.kept(h));
            case 1 -> same("allKept", x.allKept(), y.allKept());
            case 2 -> same("mistakes", x.mistakes(), y.mistakes());
            case 3 -> same("mistake " + i, x.mistake(i), y.mistake(i));
            case 4 -> same("mend " + h, x.mend(h), y.mend(h));
            case 5 -> same("mendAt " + h, x.mendAt(h), y.mendAt(h));
            case 6 -> {
                if (y.ways() < 2000) {
                    same("mendAll", x.mendAll(), y.mendAll());
                }
            }
            case 7 -> same("loses " + r, x.loses(r), y.loses(r));
            case 8 -> same("treaty " + w + " " + which, x.treaty(w, which), y.treaty(w, which));
            case 9 -> {
                int s = side();
                int o = opening();
                same("sever " + w + " " + s + " " + o + " " + which, x.sever(w, s, o, which), y.sever(w, s, o, which));
            }
            default -> {
                int what = number(2);
                same("pack " + what, x.pack(what), y.pack(what));
            }
        }
    }

    private void askSeenAndBeats() {
        int s = side();
        int o = opening();
        int to = opening();
        int r = rib();
        int c = cell();
        int w = word();
        int i = number(6);
        switch (random.nextInt(10)) {
            case 0 -> same("clash", x.clash(), y.clash());
            case 1 -> same("sure " + s + " " + r + " " + c, x.sure(s, r, c), y.sure(s, r, c));
            case 2 -> same("sureCells", x.sureCells(), y.sureCells());
            case 3 -> same("fits", x.fits(), y.fits());
            case 4 -> same("ask", x.ask(), y.ask());
            case 5 -> same("smear " + s + " " + o + " " + to, x.smear(s, o, to), y.smear(s, o, to));
            case 6 -> same("beats", x.beats(), y.beats());
            case 7 -> same("calm", x.calm(), y.calm());
            case 8 -> same("calmAt " + i, x.calmAt(i), y.calmAt(i));
            default -> same("flutters " + w, x.flutters(w), y.flutters(w));
        }
    }

    private void act() {
        int s = side();
        int o = opening();
        int r = rib();
        int c = cell();
        int letter = random.nextInt(4) == 0 ? number(25) : random.nextInt(3);
        int image = number(2);
        boolean is = random.nextBoolean();
        switch (random.nextInt(12)) {
            case 0 -> same("undo", x.undo(), y.undo());
            case 1 -> same("image", x.image(), y.image());
            case 2 -> {
                if (random.nextInt(4) == 0) {
                    same("back " + image, x.back(image), y.back(image));
                }
            }
            case 3 -> same("flutter", x.flutter(), y.flutter());
            case 4, 5 -> same("breaks " + r + " " + is, x.breaks(r, is), y.breaks(r, is));
            case 6, 7 -> same("open " + o, x.open(o), y.open(o));
            default -> same("paint " + s + " " + r + " " + c + " " + letter, x.paint(s, r, c, letter), y.paint(s, r, c, letter));
        }
    }
}
