import java.util.ArrayDeque;
import java.util.ArrayList;
import java.util.Deque;
import java.util.HashMap;
import java.util.List;
import java.util.Map;
import java.util.TreeSet;

/**
 * The document a second time, by its words and without regard to speed, in another way than the program:
 * rows are texts, sets are tried out one by one. RandomTest holds the program's answers against it.
 */
final class Oracle {
    static final class Fault extends RuntimeException {
        private static final long serialVersionUID = 1L;
        final int kind;
        final int place;

        Fault(int kind, int place) {
            this.kind = kind;
            this.place = place;
        }
    }

    record Token(char kind, String text, int place) {
    }

    record Wish(String word, int side, int opening) {
    }

    record Seen(String word, int side, int opening, int place) {
    }

    /** A CELL that shows. */
    record Spot(int rib, int cell) {
    }

    record State(String[] front, String[] back, TreeSet<Integer> broken, int now) {
        State copy() {
            return new State(front.clone(), back.clone(), new TreeSet<>(broken), now);
        }
    }

    static final class Told {
        int ribs = -1;
        int wide;
        int price;
        boolean left;
        List<String[]> ribLines = new ArrayList<>();
        List<String> words = new ArrayList<>();
        List<Wish> wishes = new ArrayList<>();
        List<Seen> seen = new ArrayList<>();
        List<Integer> beats = new ArrayList<>();

        int openings() {
            return left ? wide * (ribs - 1) + 1 : wide + 1;
        }

        List<Spot> row(int side, int opening, TreeSet<Integer> broken) {
            List<Spot> row = new ArrayList<>();
            for (int k = 0; k < ribs; k++) {
                int rib = side == 0 ? k : ribs - 1 - k;
                boolean top = k == ribs - 1;
                int open = opening;
                if (left) {
                    open = opening - wide * rib;
                    open = open < 0 ? 0 : open > wide ? wide : open;
                }
                for (int c = 0; c < (top ? wide : open); c++) {
                    if (!broken.contains(rib)) {
                        row.add(new Spot(rib, c));
                    }
                }
            }
            return row;
        }
    }

    StringBuilder tape = new StringBuilder();
    Told told = null;
    State state = null;
    Deque<State> undone = new ArrayDeque<>();
    List<State> images = new ArrayList<>();
    int trouble = 0;
    int fault = 0;
    int place = -1;

    // ---- answers

    int no(int why) {
        trouble = why;
        return -1;
    }

    int yes(int answer) {
        trouble = 0;
        return answer;
    }

    // ---- the text

    static List<Token> tokens(String text) {
        List<Token> list = new ArrayList<>();
        int i = 0;
        while (i < text.length()) {
            char c = text.charAt(i);
            int j = i + 1;
            if (c == ' ') {
                i++;
                continue;
            }
            if (c >= 'a' && c <= 'z') {
                while (j < text.length() && text.charAt(j) >= 'a' && text.charAt(j) <= 'z') {
                    j++;
                }
                list.add(new Token(j - i > 8 ? '?' : 'w', text.substring(i, j), i));
            } else if (c >= '0' && c <= '9') {
                while (j < text.length() && text.charAt(j) >= '0' && text.charAt(j) <= '9') {
                    j++;
                }
                list.add(new Token(j - i > 3 ? '?' : 'n', text.substring(i, j), i));
            } else {
                list.add(new Token(c == ';' || c == ',' ? c : '?', text.substring(i, j), i));
            }
            i = j;
        }
        list.add(new Token('.', "", text.length()));
        return list;
    }

    static final class Parse {
        final List<Token> list;
        int i = 0;
        Told told = new Told();

        Parse(String text) {
            list = tokens(text);
        }

        Token see() {
            return list.get(i);
        }

        Token take(char kind) {
            Token t = see();
            if (t.kind != kind) {
                throw new Fault(1, t.place);
            }
            i++;
            return t;
        }

        void name(String name) {
            Token t = see();
            if (!take('w').text.equals(name)) {
                throw new Fault(1, t.place);
            }
        }

        int whole(int low, int high) {
            Token t = take('n');
            int value = Integer.parseInt(t.text);
            if (value < low || value > high) {
                throw new Fault(4, t.place);
            }
            return value;
        }

        int either(String first, String second) {
            Token t = take('w');
            if (t.text.equals(first)) {
                return 0;
            }
            if (t.text.equals(second)) {
                return 1;
            }
            throw new Fault(1, t.place);
        }

        Told all() {
            line();
            while (see().kind != '.') {
                take(';');
                line();
            }
            return told;
        }

        void line() {
            Token t = take('w');
            if (!List.of("fan", "rib", "word", "wish", "seen", "beat").contains(t.text)) {
                throw new Fault(1, t.place);
            }
            if (t.text.equals("fan")) {
                if (told.ribs >= 0) {
                    throw new Fault(3, t.place);
                }
                name("ribs");
                told.ribs = whole(2, 10);
                name("wide");
                told.wide = whole(1, 3);
                name("price");
                told.price = whole(0, 99);
                name("opens");
                told.left = either("even", "left") == 1;
                return;
            }
            if (told.ribs < 0) {
                throw new Fault(6, t.place);
            }
            switch (t.text) {
                case "rib" -> rib(t);
                case "word" -> word(t);
                case "wish" -> wish(t);
                case "seen" -> seen(t);
                default -> beat(t);
            }
        }

        void rib(Token t) {
            if (told.ribLines.size() == told.ribs) {
                throw new Fault(5, t.place);
            }
            String[] line = new String[3];
            for (int side = 0; side < 2; side++) {
                Token cells = take('w');
                if (cells.text.length() != told.wide) {
                    throw new Fault(4, cells.place);
                }
                line[side] = cells.text;
            }
            if (see().text.equals("broken")) {
                line[2] = take('w').text;
            }
            told.ribLines.add(line);
        }

        void word(Token t) {
            if (told.words.size() == 6) {
                throw new Fault(5, t.place);
            }
            Token word = take('w');
            if (told.words.contains(word.text)) {
                throw new Fault(3, word.place);
            }
            told.words.add(word.text);
        }

        void wish(Token t) {
            if (told.wishes.size() == 4) {
                throw new Fault(5, t.place);
            }
            String word = take('w').text;
            int side = either("front", "back");
            told.wishes.add(new Wish(word, side, whole(0, told.openings() - 1)));
        }

        void seen(Token t) {
            if (told.seen.size() == 6) {
                throw new Fault(5, t.place);
            }
            int side = either("front", "back");
            int opening = whole(0, told.openings() - 1);
            int showing = told.row(side, opening, new TreeSet<>()).size();
            name("from");
            int from = whole(0, showing - 1);
            Token word = take('w');
            if (from + word.text.length() > showing) {
                throw new Fault(7, word.place);
            }
            told.seen.add(new Seen(word.text, side, opening, from));
        }

        void beat(Token t) {
            if (!told.beats.isEmpty()) {
                throw new Fault(3, t.place);
            }
            boolean more = true;
            while (more) {
                int place = see().place;
                int opening = whole(0, told.openings() - 1);
                if (told.beats.size() == 6) {
                    throw new Fault(5, place);
                }
                told.beats.add(opening);
                more = see().kind == ',';
                if (more) {
                    i++;
                }
            }
        }
    }

    int feed(int a, int b, int c, int d, int e) {
        if (tape.length() > 880) {
            return -1;
        }
        for (int number : new int[] {a, b, c, d, e}) {
            for (int k = 3; k >= 0; k--) {
                tape.append((char) (number >>> 8 * k & 255));
            }
        }
        return tape.length();
    }

    int fan(int n) {
        if (n < 0 || n > tape.length()) {
            return no(2);
        }
        String text = tape.substring(0, n);
        tape.setLength(0);
        try {
            told = new Parse(text).all();
        } catch (Fault f) {
            fault = f.kind;
            place = f.place;
            return no(4);
        }
        fault = 0;
        state = new State(new String[told.ribs], new String[told.ribs], new TreeSet<>(), 0);
        for (int rib = 0; rib < told.ribs; rib++) {
            boolean is = rib < told.ribLines.size();
            state.front[rib] = is ? told.ribLines.get(rib)[0] : "z".repeat(told.wide);
            state.back[rib] = is ? told.ribLines.get(rib)[1] : "z".repeat(told.wide);
            if (is && told.ribLines.get(rib)[2] != null) {
                state.broken.add(rib);
            }
        }
        undone.clear();
        images.clear();
        return yes(told.openings());
    }

    int where() {
        return trouble == 4 ? place : -1;
    }

    // ---- what there is

    boolean side(int side) {
        return told != null && (side == 0 || side == 1);
    }

    boolean rib(int rib) {
        return told != null && rib >= 0 && rib < told.ribs;
    }

    boolean isCell(int side, int rib, int cell) {
        return side(side) && rib(rib) && cell >= 0 && cell < told.wide;
    }

    boolean word(int word) {
        return told != null && word >= 0 && word < told.words.size();
    }

    boolean isWish(int wish) {
        return told != null && wish >= 0 && wish < told.wishes.size();
    }

    boolean opening(int opening) {
        return opening >= 0 && opening < told.openings();
    }

    char sign(int side, Spot spot) {
        return (side == 0 ? state.front : state.back)[spot.rib].charAt(spot.cell);
    }

    String text(int side, int opening, TreeSet<Integer> broken) {
        StringBuilder text = new StringBuilder();
        for (Spot spot : told.row(side, opening, broken)) {
            char sign = sign(side, spot);
            text.append(sign == 'z' ? '_' : sign);
        }
        return text.toString();
    }

    String text(int side, int opening) {
        return text(side, opening, state.broken);
    }

    static int code(char sign) {
        return sign == 'z' || sign == '_' ? -2 : sign - 'a';
    }

    // ---- what shows

    int cell(int side, int rib, int cell) {
        return isCell(side, rib, cell) ? yes(code(sign(side, new Spot(rib, cell)))) : no(1);
    }

    int broken(int rib) {
        return rib(rib) ? yes(state.broken.contains(rib) ? 1 : 0) : no(1);
    }

    int shows(int side, int opening) {
        return !side(side) ? no(1) : !opening(opening) ? no(2) : yes(text(side, opening).length());
    }

    int letter(int side, int opening, int place) {
        if (!side(side)) {
            return no(1);
        }
        if (!opening(opening)) {
            return no(2);
        }
        String text = text(side, opening);
        return place < 0 || place >= text.length() ? no(1) : yes(code(text.charAt(place)));
    }

    int at(int side, int opening, int place) {
        if (!side(side)) {
            return no(1);
        }
        if (!opening(opening)) {
            return no(2);
        }
        List<Spot> row = told.row(side, opening, state.broken);
        if (place < 0 || place >= row.size()) {
            return no(1);
        }
        return yes(told.wide * row.get(place).rib + row.get(place).cell);
    }

    int shown(int side, int rib, int cell) {
        if (!isCell(side, rib, cell)) {
            return no(1);
        }
        for (int opening = 0; opening < told.openings(); opening++) {
            if (told.row(side, opening, state.broken).contains(new Spot(rib, cell))) {
                return yes(opening);
            }
        }
        return yes(-2);
    }

    int ribs(int side, int opening) {
        if (!side(side)) {
            return no(1);
        }
        if (!opening(opening)) {
            return no(2);
        }
        int count = 0;
        List<Spot> row = told.row(side, opening, state.broken);
        for (int rib = 0; rib < told.ribs; rib++) {
            count += row.contains(new Spot(rib, told.wide - 1)) ? 1 : 0;
        }
        return yes(count);
    }

    int countPainted() {
        String all = String.join("", state.front) + String.join("", state.back);
        return all.replace("z", "").length();
    }

    int painted() {
        return told == null ? no(1) : yes(countPainted());
    }

    int cost() {
        return told == null ? no(1) : yes(countPainted() * told.price);
    }

    // ---- words

    static List<Integer> places(String word, String text) {
        List<Integer> places = new ArrayList<>();
        for (int i = text.indexOf(word); i >= 0; i = text.indexOf(word, i + 1)) {
            places.add(i);
        }
        return places;
    }

    int reads(int word, int side, int opening) {
        if (!word(word) || !side(side)) {
            return no(1);
        }
        return !opening(opening) ? no(2) : yes(places(told.words.get(word), text(side, opening)).size());
    }

    int readAt(int word, int side, int opening) {
        if (!word(word) || !side(side)) {
            return no(1);
        }
        if (!opening(opening)) {
            return no(2);
        }
        List<Integer> places = places(told.words.get(word), text(side, opening));
        return yes(places.isEmpty() ? -2 : places.get(0));
    }

    List<int[]> listSpans(int word, int side) {
        List<int[]> list = new ArrayList<>();
        for (int opening = 0; opening < told.openings(); opening++) {
            if (!text(side, opening).contains(told.words.get(word))) {
                continue;
            }
            if (!list.isEmpty() && list.get(list.size() - 1)[1] == opening - 1) {
                list.get(list.size() - 1)[1] = opening;
            } else {
                list.add(new int[] {opening, opening});
            }
        }
        return list;
    }

    int spans(int word, int side) {
        return word(word) && side(side) ? yes(listSpans(word, side).size()) : no(1);
    }

    int span(int word, int side, int i, boolean last) {
        if (!word(word) || !side(side) || i < 0 || i >= listSpans(word, side).size()) {
            return no(1);
        }
        return yes(listSpans(word, side).get(i)[last ? 1 : 0]);
    }

    int says(int side, int opening) {
        if (!side(side)) {
            return no(1);
        }
        if (!opening(opening)) {
            return no(2);
        }
        int bits = 0;
        for (int word = 0; word < told.words.size(); word++) {
            bits += text(side, opening).contains(told.words.get(word)) ? 1 << word : 0;
        }
        return yes(bits);
    }

    // ---- wishes

    boolean isKept(Wish wish, TreeSet<Integer> broken) {
        return text(wish.side, wish.opening, broken).contains(wish.word);
    }

    int kept(int wish) {
        return isWish(wish) ? yes(isKept(told.wishes.get(wish), state.broken) ? 1 : 0) : no(1);
    }

    int allKept() {
        if (told == null) {
            return no(1);
        }
        int bits = 0;
        for (int i = 0; i < told.wishes.size(); i++) {
            bits += isKept(told.wishes.get(i), state.broken) ? 1 << i : 0;
        }
        return yes(bits);
    }

    List<Integer> listMistakes() {
        List<Integer> list = new ArrayList<>();
        for (int opening = 0; opening < told.openings(); opening++) {
            for (int side = 0; side < 2; side++) {
                for (int word = 0; word < told.words.size(); word++) {
                    String name = told.words.get(word);
                    if (text(side, opening).contains(name) && !told.wishes.contains(new Wish(name, side, opening))) {
                        list.add(100 * word + 50 * side + opening);
                    }
                }
            }
        }
        return list;
    }

    int mistakes() {
        return told == null ? no(1) : yes(listMistakes().size());
    }

    int mistake(int i) {
        return told == null || i < 0 || i >= listMistakes().size() ? no(1) : yes(listMistakes().get(i));
    }

    int[] bestMend(Wish wish) {
        int[] best = {-2, -2};
        String text = text(wish.side, wish.opening);
        for (int place = 0; place + wish.word.length() <= text.length() && !wish.word.contains("z"); place++) {
            int unlike = 0;
            for (int i = 0; i < wish.word.length(); i++) {
                unlike += wish.word.charAt(i) == text.charAt(place + i) ? 0 : 1;
            }
            if (best[0] < 0 || unlike < best[0]) {
                best = new int[] {unlike, place};
            }
        }
        return best;
    }

    int mend(int wish) {
        return isWish(wish) ? yes(bestMend(told.wishes.get(wish))[0]) : no(1);
    }

    int mendAt(int wish) {
        return isWish(wish) ? yes(bestMend(told.wishes.get(wish))[1]) : no(1);
    }

    /** How many ways of placing all wishes there are; beyond some number MEND of all takes too long here. */
    long ways() {
        long ways = 1;
        for (Wish wish : told == null ? List.<Wish>of() : told.wishes) {
            ways *= Math.max(1, text(wish.side, wish.opening).length() - wish.word.length() + 1);
        }
        return ways;
    }

    int mendAll() {
        return told == null ? no(1) : yes(mendFrom(0, new HashMap<>()));
    }

    private int mendFrom(int i, Map<String, Character> needs) {
        if (i == told.wishes.size()) {
            int count = 0;
            for (Map.Entry<String, Character> need : needs.entrySet()) {
                String[] key = need.getKey().split(" ");
                Spot spot = new Spot(Integer.parseInt(key[1]), Integer.parseInt(key[2]));
                count += sign(Integer.parseInt(key[0]), spot) == need.getValue() ? 0 : 1;
            }
            return count;
        }
        Wish wish = told.wishes.get(i);
        List<Spot> row = told.row(wish.side, wish.opening, state.broken);
        int best = -2;
        for (int place = 0; place + wish.word.length() <= row.size() && !wish.word.contains("z"); place++) {
            Map<String, Character> more = new HashMap<>(needs);
            boolean can = true;
            for (int k = 0; k < wish.word.length(); k++) {
                Spot spot = row.get(place + k);
                Character old = more.put(wish.side + " " + spot.rib + " " + spot.cell, wish.word.charAt(k));
                can &= old == null || old == wish.word.charAt(k);
            }
            int count = can ? mendFrom(i + 1, more) : -2;
            best = count >= 0 && (best < 0 || count < best) ? count : best;
        }
        return best;
    }

    TreeSet<Integer> without(TreeSet<Integer> broken, int rib) {
        TreeSet<Integer> more = new TreeSet<>(broken);
        more.add(rib);
        return more;
    }

    int loses(int rib) {
        if (!rib(rib)) {
            return no(1);
        }
        if (state.broken.contains(rib)) {
            return no(5);
        }
        int bits = 0;
        for (int i = 0; i < told.wishes.size(); i++) {
            Wish wish = told.wishes.get(i);
            bits += isKept(wish, state.broken) && !isKept(wish, without(state.broken, rib)) ? 1 << i : 0;
        }
        return yes(bits);
    }

    int treaty(int word, boolean opening) {
        if (!word(word)) {
            return no(1);
        }
        String name = told.words.get(word);
        for (int rib = 0; rib < told.ribs; rib++) {
            for (int at = 0; at < told.openings() * 2; at++) {
                int side = at % 2;
                if (!state.broken.contains(rib) && !text(side, at / 2).contains(name)
                        && text(side, at / 2, without(state.broken, rib)).contains(name)) {
                    return yes(opening ? 50 * side + at / 2 : rib);
                }
            }
        }
        return yes(-2);
    }

    int sever(int word, int side, int opening, boolean which) {
        if (!word(word) || !side(side)) {
            return no(1);
        }
        if (!opening(opening)) {
            return no(2);
        }
        for (int count = 0; count <= told.ribs; count++) {
            for (int bits = 0; bits < 1 << told.ribs; bits++) {
                TreeSet<Integer> broken = new TreeSet<>(state.broken);
                boolean fresh = true;
                for (int rib = 0; rib < told.ribs; rib++) {
                    if ((bits >> rib & 1) == 1) {
                        fresh &= broken.add(rib);
                    }
                }
                if (fresh && Integer.bitCount(bits) == count
                        && text(side, opening, broken).contains(told.words.get(word))) {
                    return yes(which ? bits : count);
                }
            }
        }
        return yes(-2);
    }

    static int shortestRow(String row, List<String> rest) {
        int best = rest.isEmpty() ? row.length() : 1000;
        for (int i = 0; i < rest.size(); i++) {
            List<String> others = new ArrayList<>(rest);
            String word = others.remove(i);
            String longer = row;
            for (int k = Math.min(row.length(), word.length()); !longer.contains(word); k--) {
                longer = row.endsWith(word.substring(0, k)) ? row + word.substring(k) : row;
            }
            best = Math.min(best, shortestRow(longer, others));
        }
        return best;
    }

    int pack(int what) {
        if (told == null || what < 0 || what > 2) {
            return no(1);
        }
        int[] best = {0, 0, 0};
        for (int bits = 1; bits < 1 << told.words.size(); bits++) {
            List<String> words = new ArrayList<>();
            for (int word = 0; word < told.words.size(); word++) {
                if ((bits >> word & 1) == 1) {
                    words.add(told.words.get(word));
                }
            }
            if (String.join("", words).contains("z") || words.size() < best[0]) {
                continue;
            }
            int length = shortestRow("", words);
            if (length <= told.ribs * told.wide && (words.size() > best[0] || length < best[2])) {
                best = new int[] {words.size(), bits, length};
            }
        }
        return yes(best[what]);
    }

    // ---- what was seen

    int clashing() {
        return sights().getOrDefault("clash", -2);
    }

    Map<String, Integer> sights() {
        Map<String, Integer> sure = new HashMap<>();
        for (int i = 0; i < told.seen.size(); i++) {
            Seen seen = told.seen.get(i);
            Map<String, Integer> more = new HashMap<>(sure);
            for (int k = 0; k < seen.word.length(); k++) {
                Spot spot = told.row(seen.side, seen.opening, new TreeSet<>()).get(seen.place + k);
                int code = code(seen.word.charAt(k));
                Integer old = more.put(seen.side + " " + spot.rib + " " + spot.cell, code);
                if (old != null && old != code) {
                    sure.put("clash", i);
                    return sure;
                }
            }
            sure = more;
        }
        return sure;
    }

    int clash() {
        return told == null ? no(1) : yes(clashing());
    }

    int sure(int side, int rib, int cell) {
        return isCell(side, rib, cell) ? yes(sights().getOrDefault(side + " " + rib + " " + cell, -3)) : no(1);
    }

    int sureCells() {
        return told == null ? no(1) : yes(sights().size() - (clashing() == -2 ? 0 : 1));
    }

    int fits() {
        if (told == null) {
            return no(1);
        }
        boolean fits = true;
        for (Seen seen : told.seen) {
            String text = text(seen.side, seen.opening, new TreeSet<>());
            fits &= text.startsWith(seen.word.replace('z', '_'), seen.place);
        }
        return yes(fits ? 1 : 0);
    }

    int ask() {
        if (told == null) {
            return no(1);
        }
        int best = -2;
        int most = 0;
        for (int side = 0; side < 2; side++) {
            for (int opening = 0; opening < told.openings(); opening++) {
                int count = 0;
                for (Spot spot : told.row(side, opening, new TreeSet<>())) {
                    count += sights().containsKey(side + " " + spot.rib + " " + spot.cell) ? 0 : 1;
                }
                if (count > most) {
                    most = count;
                    best = 50 * side + opening;
                }
            }
        }
        return yes(best);
    }

    // ---- fluttering

    int between(int side, int from, int to) {
        String one = text(side, from);
        String two = text(side, to);
        int count = 0;
        for (int i = 0; i < one.length() || i < two.length(); i++) {
            boolean both = i < one.length() && i < two.length();
            count += both && one.charAt(i) == two.charAt(i) ? 0 : 1;
        }
        return count;
    }

    int smear(int side, int from, int to) {
        return !side(side) ? no(1) : !opening(from) || !opening(to) ? no(2) : yes(between(side, from, to));
    }

    int along(List<Integer> order) {
        int sum = 0;
        for (int i = 1; i < order.size(); i++) {
            sum += between(0, told.beats.get(order.get(i - 1)), told.beats.get(order.get(i)));
        }
        return sum;
    }

    List<Integer> asTold() {
        List<Integer> order = new ArrayList<>();
        for (int i = 0; i < told.beats.size(); i++) {
            order.add(i);
        }
        return order;
    }

    void orders(List<Integer> begun, List<List<Integer>> all) {
        if (begun.size() == told.beats.size()) {
            all.add(begun);
        }
        for (int i = 0; i < told.beats.size(); i++) {
            if (!begun.contains(i)) {
                List<Integer> longer = new ArrayList<>(begun);
                longer.add(i);
                orders(longer, all);
            }
        }
    }

    List<Integer> calmest() {
        List<List<Integer>> all = new ArrayList<>();
        orders(new ArrayList<>(), all);
        List<Integer> best = all.get(0);
        int least = along(best);
        for (List<Integer> order : all) {
            int sum = along(order);
            if (sum < least) {
                least = sum;
                best = order;
            }
        }
        return best;
    }

    int beats() {
        return told == null ? no(1) : told.beats.isEmpty() ? no(6) : yes(along(asTold()));
    }

    int calm() {
        return told == null ? no(1) : told.beats.isEmpty() ? no(6) : yes(along(calmest()));
    }

    int calmAt(int i) {
        if (told == null) {
            return no(1);
        }
        if (told.beats.isEmpty()) {
            return no(6);
        }
        return i < 0 || i >= told.beats.size() ? no(1) : yes(calmest().get(i));
    }

    int flutters(int word) {
        if (!word(word)) {
            return no(1);
        }
        if (told.beats.isEmpty()) {
            return no(6);
        }
        int bits = 0;
        for (int i = 0; i < told.beats.size(); i++) {
            bits += text(0, told.beats.get(i)).contains(told.words.get(word)) ? 1 << i : 0;
        }
        return yes(bits);
    }

    // ---- acts: each keeps the whole state ahead of it

    void act(State then) {
        undone.addLast(state);
        if (undone.size() > 16) {
            undone.removeFirst();
        }
        state = then;
    }

    boolean paint(int side, int rib, int cell, int letter) {
        if (!isCell(side, rib, cell)) {
            return no(1) >= 0;
        }
        if (letter < 0 || letter > 25) {
            return no(2) >= 0;
        }
        if (sign(side, new Spot(rib, cell)) == 'a' + letter) {
            return no(5) >= 0;
        }
        State then = state.copy();
        String[] cells = side == 0 ? then.front : then.back;
        cells[rib] = cells[rib].substring(0, cell) + (char) ('a' + letter) + cells[rib].substring(cell + 1);
        act(then);
        return yes(1) == 1;
    }

    boolean breaks(int rib, boolean is) {
        if (!rib(rib)) {
            return no(1) >= 0;
        }
        if (state.broken.contains(rib) == is) {
            return no(5) >= 0;
        }
        State then = state.copy();
        if (is) {
            then.broken.add(rib);
        } else {
            then.broken.remove(rib);
        }
        act(then);
        return yes(1) == 1;
    }

    int open(int opening) {
        if (told == null) {
            return no(1);
        }
        if (!opening(opening)) {
            return no(2);
        }
        if (opening == state.now) {
            return no(5);
        }
        act(new State(state.front, state.back, state.broken, opening));
        return yes(text(0, opening).length());
    }

    int flutter() {
        if (told == null) {
            return no(1);
        }
        if (told.beats.isEmpty()) {
            return no(6);
        }
        int smears = between(0, state.now, told.beats.get(0)) + along(asTold());
        act(new State(state.front, state.back, state.broken, told.beats.get(told.beats.size() - 1)));
        return yes(smears);
    }

    boolean undo() {
        if (undone.isEmpty()) {
            return no(6) >= 0;
        }
        state = undone.removeLast();
        return yes(1) == 1;
    }

    int image() {
        if (told == null) {
            return no(1);
        }
        if (images.size() == 3) {
            return no(3);
        }
        images.add(state);
        return yes(images.size() - 1);
    }

    boolean back(int image) {
        if (image < 0 || image >= images.size()) {
            return no(1) >= 0;
        }
        state = images.get(image);
        undone.clear();
        return yes(1) == 1;
    }

    // ---- what is told

    int wish(int i, int what) {
        if (!isWish(i) || what < 0 || what > 2) {
            return no(1);
        }
        Wish wish = told.wishes.get(i);
        return yes(what == 0 ? wish.word.length() : what == 1 ? wish.side : wish.opening);
    }

    /** -1 where NoSuchElementException is due. */
    int led(int i) {
        List<Integer> bare = new ArrayList<>();
        for (int c = 0; told != null && c < told.ribs * told.wide; c++) {
            if (sign(0, new Spot(c / told.wide, c % told.wide)) == 'z') {
                bare.add(c);
            }
        }
        return i < 0 || i >= bare.size() ? -1 : bare.get(i);
    }

    int size(int what) {
        if (what < 0 || what > 10) {
            return -1;
        }
        if (what == 10) {
            return tape.length();
        }
        if (told == null) {
            return 0;
        }
        int[] sizes = {told.ribs, told.wide, told.left ? 1 : 0, told.words.size(), told.wishes.size(),
            told.seen.size(), told.beats.size(), state.now, undone.size(), images.size()};
        return sizes[what];
    }
}
