import java.util.NoSuchElementException;

/** A fan read part by part. The document (DOC.md) tells what each call promises; its terms are used here. */
public final class FanParts {
    public static final int NONE = -1;

    // Answers that aren't refusals: there is no such thing, or it can't be; it isn't SURE.
    private static final int LACKING = -2;
    private static final int UNSURE = -3;

    // TROUBLE.
    private static final int FINE = 0;
    private static final int NO_SUCH = 1;
    private static final int NUMBER = 2;
    private static final int NO_ROOM = 3;
    private static final int FAULTY = 4;
    private static final int NOT_SO = 5;
    private static final int EMPTY = 6;

    private static final int FRONT = 0;
    private static final int BACK = 1;
    private static final int SIDES = 2;
    // The letter z: as a painting it is a bare cell.
    private static final int BARE = 25;
    // How answers join a word, a SIDE and an OPENING in one number.
    private static final int WORD_STEP = 100;
    private static final int SIDE_STEP = 50;

    private static final int TAPE_ROOM = 900;
    private static final int FEED_BYTES = 20;
    private static final int LEAST_RIBS = 2;
    private static final int MOST_RIBS = 10;
    private static final int MOST_WIDE = 3;
    private static final int MOST_PRICE = 99;
    private static final int MOST_CELLS = MOST_RIBS * MOST_WIDE;
    private static final int MOST_OPENINGS = MOST_WIDE * (MOST_RIBS - 1) + 1;
    private static final int MOST_LETTERS = 8;
    private static final int MOST_DIGITS = 3;
    private static final int MOST_WORDS = 6;
    private static final int MOST_WISHES = 4;
    private static final int MOST_SEEN = 6;
    private static final int MOST_BEATS = 6;
    private static final int MOST_ACTS = 16;
    private static final int MOST_IMAGES = 3;

    private final Reader reader = new Reader();
    // THE TAPE is the reader's, which reads it in place.
    private final byte[] tape = reader.text;
    private int tapeLength;
    private Fan told = new Fan();
    private boolean hasFan;
    private final Painting painting = new Painting();
    private final Painting[] album = new Painting[MOST_IMAGES];
    private int albumCount;
    private final Acts acts = new Acts();
    private final Row row = new Row();
    private final Row otherRow = new Row();
    private final Sight sight = new Sight();
    private final Mender mender = new Mender();
    private final Packer packer = new Packer();
    private final Calmer calmer = new Calmer();
    // MISTAKES or the ends of SPANS, whichever a call has gathered last.
    private final int[] gathered = new int[MOST_WORDS * SIDES * MOST_OPENINGS];
    private int refusal;

    public FanParts() {
        for (int i = 0; i < album.length; i++) {
            album[i] = new Painting();
        }
    }

    // ---- the fan

    public int feed(int a, int b, int c, int d, int e) {
        if (tapeLength + FEED_BYTES > TAPE_ROOM) {
            return NONE;
        }
        append(a);
        append(b);
        append(c);
        append(d);
        append(e);
        return tapeLength;
    }

    private void append(int number) {
        for (int shift = 24; shift >= 0; shift -= 8) {
            if (tapeLength >= 0 && tapeLength < tape.length) {
                tape[tapeLength] = (byte) (number >> shift);
                tapeLength++;
            }
        }
    }

    public int fan(int n) {
        if (n < 0 || n > tapeLength) {
            return refuse(NUMBER);
        }
        tapeLength = 0;
        if (!reader.readFan(n)) {
            return refuse(FAULTY);
        }
        told = reader.exchange(told);
        hasFan = true;
        painting.copyFrom(told.start);
        acts.forget();
        albumCount = 0;
        sight.study(told, row);
        return answer(told.openings());
    }

    public int fault() {
        return reader.faultFound;
    }

    public int where() {
        return refusal == FAULTY ? reader.faultPlace : NONE;
    }

    // ---- what shows

    public int cell(int side, int rib, int cell) {
        if (noCell(side, rib, cell)) {
            return refuse(NO_SUCH);
        }
        return answer(letterOrBare(painting.letterOf(side, told.wide * rib + cell)));
    }

    public int broken(int rib) {
        if (noRib(rib)) {
            return refuse(NO_SUCH);
        }
        return answer(painting.lacksRib(rib) ? 1 : 0);
    }

    public int shows(int side, int opening) {
        int why = wrongView(side, opening);
        if (why != FINE) {
            return refuse(why);
        }
        lookAt(side, opening);
        return answer(row.length);
    }

    public int letter(int side, int opening, int place) {
        int why = wrongPlace(side, opening, place);
        if (why != FINE) {
            return refuse(why);
        }
        return answer(letterOrBare(row.letters[place]));
    }

    public int at(int side, int opening, int place) {
        int why = wrongPlace(side, opening, place);
        if (why != FINE) {
            return refuse(why);
        }
        return answer(row.cells[place]);
    }

    public int shown(int side, int rib, int cell) {
        if (noCell(side, rib, cell)) {
            return refuse(NO_SUCH);
        }
        if (painting.lacksRib(rib)) {
            return answer(LACKING);
        }
        for (int opening = 0; opening < told.openings(); opening++) {
            if (told.openCells(side, rib, opening) > cell) {
                return answer(opening);
            }
        }
        return answer(LACKING);
    }

    public int ribs(int side, int opening) {
        int why = wrongView(side, opening);
        if (why != FINE) {
            return refuse(why);
        }
        int count = 0;
        for (int rib = 0; rib < told.ribCount; rib++) {
            if (!painting.lacksRib(rib) && told.openCells(side, rib, opening) == told.wide) {
                count++;
            }
        }
        return answer(count);
    }

    public int painted() {
        return hasFan ? answer(painting.countPainted()) : refuse(NO_SUCH);
    }

    public int cost() {
        return hasFan ? answer(told.price * painting.countPainted()) : refuse(NO_SUCH);
    }

    // ---- words

    public int reads(int word, int side, int opening) {
        int why = wrongReading(word, side, opening);
        if (why != FINE) {
            return refuse(why);
        }
        lookAt(side, opening);
        return answer(row.timesRead(told.words[word]));
    }

    public int readAt(int word, int side, int opening) {
        int why = wrongReading(word, side, opening);
        if (why != FINE) {
            return refuse(why);
        }
        lookAt(side, opening);
        return answer(row.firstRead(told.words[word]));
    }

    public int spans(int word, int side) {
        if (noWord(word) || noSide(side)) {
            return refuse(NO_SUCH);
        }
        return answer(gatherSpans(told.words[word], side));
    }

    public int span(int word, int side, int i, boolean last) {
        if (noWord(word) || noSide(side)) {
            return refuse(NO_SUCH);
        }
        int count = gatherSpans(told.words[word], side);
        if (i < 0 || i >= count) {
            return refuse(NO_SUCH);
        }
        return answer(gathered[2 * i + (last ? 1 : 0)]);
    }

    public int says(int side, int opening) {
        int why = wrongView(side, opening);
        if (why != FINE) {
            return refuse(why);
        }
        lookAt(side, opening);
        int bits = 0;
        for (int word = 0; word < told.wordCount; word++) {
            if (row.isRead(told.words[word])) {
                bits |= 1 << word;
            }
        }
        return answer(bits);
    }

    // ---- wishes

    public int kept(int wish) {
        if (noWish(wish)) {
            return refuse(NO_SUCH);
        }
        return answer(keptBits(painting.brokenBits) >> wish & 1);
    }

    public int allKept() {
        return hasFan ? answer(keptBits(painting.brokenBits)) : refuse(NO_SUCH);
    }

    public int mistakes() {
        return hasFan ? answer(gatherMistakes()) : refuse(NO_SUCH);
    }

    public int mistake(int i) {
        if (!hasFan || i < 0 || i >= gatherMistakes()) {
            return refuse(NO_SUCH);
        }
        return answer(gathered[i]);
    }

    public int mend(int wish) {
        if (noWish(wish)) {
            return refuse(NO_SUCH);
        }
        int place = bestPlace(told.wishes[wish]);
        return answer(place == LACKING ? LACKING : row.strangeAt(told.wishes[wish], place));
    }

    public int mendAt(int wish) {
        if (noWish(wish)) {
            return refuse(NO_SUCH);
        }
        return answer(bestPlace(told.wishes[wish]));
    }

    public int mendAll() {
        return hasFan ? answer(mender.fewestForAll(told, painting)) : refuse(NO_SUCH);
    }

    public int loses(int rib) {
        if (noRib(rib)) {
            return refuse(NO_SUCH);
        }
        if (painting.lacksRib(rib)) {
            return refuse(NOT_SO);
        }
        int now = keptBits(painting.brokenBits);
        int then = keptBits(painting.brokenBits | 1 << rib);
        return answer(now & ~then);
    }

    public int treaty(int word, boolean opening) {
        if (noWord(word)) {
            return refuse(NO_SUCH);
        }
        for (int rib = 0; rib < told.ribCount; rib++) {
            int view = firstViewWithout(rib, told.words[word]);
            if (view != LACKING) {
                return answer(opening ? view : rib);
            }
        }
        return answer(LACKING);
    }

    public int sever(int word, int side, int opening, boolean which) {
        int why = wrongReading(word, side, opening);
        if (why != FINE) {
            return refuse(why);
        }
        int bits = fewestToBreak(told.words[word], side, opening);
        return answer(which || bits == LACKING ? bits : Integer.bitCount(bits));
    }

    public int pack(int what) {
        if (!hasFan || what < 0 || what > 2) {
            return refuse(NO_SUCH);
        }
        packer.packWords(told);
        if (what == 0) {
            return answer(Integer.bitCount(packer.bestBits));
        }
        return answer(what == 1 ? packer.bestBits : packer.bestLength);
    }

    // ---- what was seen

    public int clash() {
        return hasFan ? answer(sight.clashing) : refuse(NO_SUCH);
    }

    public int sure(int side, int rib, int cell) {
        if (noCell(side, rib, cell)) {
            return refuse(NO_SUCH);
        }
        int letter = sight.sureLetter(side, told.wide * rib + cell);
        return answer(letter == UNSURE ? UNSURE : letterOrBare(letter));
    }

    public int sureCells() {
        return hasFan ? answer(sight.countSure()) : refuse(NO_SUCH);
    }

    public int fits() {
        if (!hasFan) {
            return refuse(NO_SUCH);
        }
        for (int i = 0; i < told.seenCount; i++) {
            Saying seen = told.seen[i];
            row.look(told, painting, 0, seen.side, seen.opening);
            if (row.strangeAt(seen, seen.place) != 0) {
                return answer(0);
            }
        }
        return answer(1);
    }

    public int ask() {
        if (!hasFan) {
            return refuse(NO_SUCH);
        }
        int best = LACKING;
        int most = 0;
        for (int side = FRONT; side <= BACK; side++) {
            for (int opening = 0; opening < told.openings(); opening++) {
                row.look(told, painting, 0, side, opening);
                int unsure = sight.countUnsure(row, side);
                if (unsure > most) {
                    most = unsure;
                    best = SIDE_STEP * side + opening;
                }
            }
        }
        return answer(best);
    }

    // ---- fluttering

    public int smear(int side, int from, int to) {
        int why = wrongView(side, from);
        if (why == FINE) {
            why = wrongView(side, to);
        }
        return why == FINE ? answer(smearBetween(side, from, to)) : refuse(why);
    }

    public int beats() {
        int why = wrongBeats();
        return why == FINE ? answer(smearOfBeats()) : refuse(why);
    }

    public int calm() {
        int why = wrongBeats();
        if (why != FINE) {
            return refuse(why);
        }
        findCalm();
        return answer(calmer.least);
    }

    public int calmAt(int i) {
        int why = wrongBeats();
        if (why != FINE) {
            return refuse(why);
        }
        if (i < 0 || i >= told.beatCount) {
            return refuse(NO_SUCH);
        }
        findCalm();
        return answer(calmer.bestOrder[i]);
    }

    public int flutters(int word) {
        if (noWord(word)) {
            return refuse(NO_SUCH);
        }
        if (told.beatCount == 0) {
            return refuse(EMPTY);
        }
        int bits = 0;
        for (int i = 0; i < told.beatCount; i++) {
            lookAt(FRONT, told.beatRow[i]);
            if (row.isRead(told.words[word])) {
                bits |= 1 << i;
            }
        }
        return answer(bits);
    }

    // ---- acts

    public boolean paint(int side, int rib, int cell, int letter) {
        if (noCell(side, rib, cell)) {
            return deny(NO_SUCH);
        }
        if (letter < 0 || letter > BARE) {
            return deny(NUMBER);
        }
        int index = cellIndex(side, told.wide * rib + cell);
        if (painting.letters[index] == letter) {
            return deny(NOT_SO);
        }
        acts.keep(Acts.PAINT, index, painting.letters[index]);
        painting.letters[index] = letter;
        return allow();
    }

    public boolean breaks(int rib, boolean is) {
        if (noRib(rib)) {
            return deny(NO_SUCH);
        }
        if (painting.lacksRib(rib) == is) {
            return deny(NOT_SO);
        }
        acts.keep(Acts.BREAK, 0, painting.brokenBits);
        painting.brokenBits ^= 1 << rib;
        return allow();
    }

    public int open(int opening) {
        int why = wrongView(FRONT, opening);
        if (why != FINE) {
            return refuse(why);
        }
        if (painting.now == opening) {
            return refuse(NOT_SO);
        }
        moveTo(opening);
        lookAt(FRONT, opening);
        return answer(row.length);
    }

    public int flutter() {
        int why = wrongBeats();
        if (why != FINE) {
            return refuse(why);
        }
        int smears = smearBetween(FRONT, painting.now, told.beatRow[0]) + smearOfBeats();
        moveTo(told.beatRow[told.beatCount - 1]);
        return answer(smears);
    }

    public boolean undo() {
        return acts.takeBack(painting) ? allow() : deny(EMPTY);
    }

    public int image() {
        if (!hasFan) {
            return refuse(NO_SUCH);
        }
        if (albumCount >= album.length) {
            return refuse(NO_ROOM);
        }
        album[albumCount].copyFrom(painting);
        albumCount++;
        return answer(albumCount - 1);
    }

    public boolean back(int image) {
        if (image < 0 || image >= albumCount) {
            return deny(NO_SUCH);
        }
        painting.copyFrom(album[image]);
        acts.forget();
        return allow();
    }

    // ---- what is told

    public int wish(int i, int what) {
        if (noWish(i) || what < 0 || what > 2) {
            return refuse(NO_SUCH);
        }
        Saying wish = told.wishes[i];
        if (what == 0) {
            return answer(wish.length);
        }
        return answer(what == 1 ? wish.side : wish.opening);
    }

    public int led(int i) throws NoSuchElementException {
        int bare = i < 0 || !hasFan ? NONE : bareOfFront(i);
        if (bare == NONE) {
            throw new NoSuchElementException();
        }
        return bare;
    }

    public int size(int what) {
        switch (what) {
            case 0:
                return told.ribCount;
            case 1:
                return told.wide;
            case 2:
                return told.left ? 1 : 0;
            case 3:
                return told.wordCount;
            case 4:
                return told.wishCount;
            case 5:
                return told.seenCount;
            case 6:
                return told.beatCount;
            case 7:
                return painting.now;
            case 8:
                return acts.count;
            case 9:
                return albumCount;
            case 10:
                return tapeLength;
            default:
                return NONE;
        }
    }

    public int trouble() {
        return refusal;
    }

    // ---- answers and refusals

    private int answer(int value) {
        refusal = FINE;
        return value;
    }

    private int refuse(int why) {
        refusal = why;
        return NONE;
    }

    private boolean allow() {
        refusal = FINE;
        return true;
    }

    private boolean deny(int why) {
        refusal = why;
        return false;
    }

    // ---- what may be asked for

    private boolean noSide(int side) {
        return !hasFan || side < FRONT || side > BACK;
    }

    private boolean noRib(int rib) {
        return !hasFan || rib < 0 || rib >= told.ribCount;
    }

    private boolean noCell(int side, int rib, int cell) {
        return noSide(side) || noRib(rib) || cell < 0 || cell >= told.wide;
    }

    private boolean noWord(int word) {
        return !hasFan || word < 0 || word >= told.wordCount;
    }

    private boolean noWish(int wish) {
        return !hasFan || wish < 0 || wish >= told.wishCount;
    }

    private int wrongView(int side, int opening) {
        if (noSide(side)) {
            return NO_SUCH;
        }
        return opening < 0 || opening >= told.openings() ? NUMBER : FINE;
    }

    private int wrongReading(int word, int side, int opening) {
        return noWord(word) ? NO_SUCH : wrongView(side, opening);
    }

    // Leaves in the row what shows, as only that tells whether there is such a PLACE.
    private int wrongPlace(int side, int opening, int place) {
        int why = wrongView(side, opening);
        if (why != FINE) {
            return why;
        }
        lookAt(side, opening);
        return place < 0 || place >= row.length ? NO_SUCH : FINE;
    }

    private int wrongBeats() {
        if (!hasFan) {
            return NO_SUCH;
        }
        return told.beatCount == 0 ? EMPTY : FINE;
    }

    // ---- how the answers are found

    private static int letterOrBare(int letter) {
        return letter == BARE ? LACKING : letter;
    }

    private static int cellIndex(int side, int cell) {
        return side * MOST_CELLS + cell;
    }

    private void lookAt(int side, int opening) {
        row.look(told, painting, painting.brokenBits, side, opening);
    }

    private boolean isReadIf(int brokenBits, Saying word, int side, int opening) {
        row.look(told, painting, brokenBits, side, opening);
        return row.isRead(word);
    }

    // Gathers the first and the last OPENING of each SPAN, by turns.
    private int gatherSpans(Saying word, int side) {
        int count = 0;
        boolean before = false;
        for (int opening = 0; opening < told.openings(); opening++) {
            boolean is = isReadIf(painting.brokenBits, word, side, opening);
            if (is && !before) {
                gathered[2 * count] = opening;
                count++;
            }
            if (is) {
                gathered[2 * count - 1] = opening;
            }
            before = is;
        }
        return count;
    }

    private int gatherMistakes() {
        int count = 0;
        for (int opening = 0; opening < told.openings(); opening++) {
            for (int side = FRONT; side <= BACK; side++) {
                lookAt(side, opening);
                for (int word = 0; word < told.wordCount; word++) {
                    if (row.isRead(told.words[word]) && !told.isWished(told.words[word], side, opening)) {
                        gathered[count] = WORD_STEP * word + SIDE_STEP * side + opening;
                        count++;
                    }
                }
            }
        }
        return count;
    }

    private int keptBits(int brokenBits) {
        int bits = 0;
        for (int i = 0; i < told.wishCount; i++) {
            Saying wish = told.wishes[i];
            if (isReadIf(brokenBits, wish, wish.side, wish.opening)) {
                bits |= 1 << i;
            }
        }
        return bits;
    }

    private int bestPlace(Saying wish) {
        lookAt(wish.side, wish.opening);
        return row.cheapestPlace(wish);
    }

    private int firstViewWithout(int rib, Saying word) {
        if (painting.lacksRib(rib)) {
            return LACKING;
        }
        int then = painting.brokenBits | 1 << rib;
        for (int opening = 0; opening < told.openings(); opening++) {
            for (int side = FRONT; side <= BACK; side++) {
                if (isReadIf(then, word, side, opening)
                        && !isReadIf(painting.brokenBits, word, side, opening)) {
                    return SIDE_STEP * side + opening;
                }
            }
        }
        return LACKING;
    }

    private int fewestToBreak(Saying word, int side, int opening) {
        int best = LACKING;
        int fewest = MOST_RIBS + 1;
        for (int bits = 0; bits < 1 << told.ribCount; bits++) {
            if ((bits & painting.brokenBits) == 0 && Integer.bitCount(bits) < fewest
                    && isReadIf(painting.brokenBits | bits, word, side, opening)) {
                best = bits;
                fewest = Integer.bitCount(bits);
            }
        }
        return best;
    }

    private int smearBetween(int side, int from, int to) {
        row.look(told, painting, painting.brokenBits, side, from);
        otherRow.look(told, painting, painting.brokenBits, side, to);
        return row.countUnlike(otherRow);
    }

    private int smearOfBeats() {
        int smears = 0;
        for (int i = 1; i < told.beatCount; i++) {
            smears += smearBetween(FRONT, told.beatRow[i - 1], told.beatRow[i]);
        }
        return smears;
    }

    private void findCalm() {
        for (int i = 0; i < told.beatCount; i++) {
            for (int j = 0; j < told.beatCount; j++) {
                calmer.smears[i * MOST_BEATS + j] = smearBetween(FRONT, told.beatRow[i], told.beatRow[j]);
            }
        }
        calmer.settle(told.beatCount);
    }

    private void moveTo(int opening) {
        acts.keep(Acts.MOVE, 0, painting.now);
        painting.now = opening;
    }

    private int bareOfFront(int i) {
        int seen = 0;
        for (int cell = 0; cell < told.ribCount * told.wide; cell++) {
            if (painting.letterOf(FRONT, cell) == BARE) {
                if (seen == i) {
                    return cell;
                }
                seen++;
            }
        }
        return NONE;
    }

    /** The letters that a LINE tells, with the SIDE, OPENING and PLACE that it may tell beside them. */
    private static final class Saying {
        final int[] letters = new int[MOST_LETTERS];
        int length;
        int side;
        int opening;
        int place;

        boolean hasBare() {
            for (int i = 0; i < length; i++) {
                if (letters[i] == BARE) {
                    return true;
                }
            }
            return false;
        }

        boolean sameLetters(Saying other) {
            return length == other.length && standsIn(other, 0);
        }

        boolean standsIn(Saying other, int from) {
            if (from < 0 || from + length > other.length) {
                return false;
            }
            for (int i = 0; i < length; i++) {
                if (letters[i] != other.letters[from + i]) {
                    return false;
                }
            }
            return true;
        }

        boolean liesIn(Saying other) {
            for (int from = 0; from + length <= other.length; from++) {
                if (standsIn(other, from)) {
                    return true;
                }
            }
            return false;
        }

        boolean endsAsBegins(Saying other, int count) {
            if (count < 0 || count > length || count > other.length) {
                return false;
            }
            for (int i = 0; i < count; i++) {
                if (letters[length - count + i] != other.letters[i]) {
                    return false;
                }
            }
            return true;
        }
    }

    /** What the text of a FAN tells. */
    private static final class Fan {
        int ribCount;
        int wide;
        int price;
        boolean left;
        int toldRibs;
        final Painting start = new Painting();
        final Saying[] words = new Saying[MOST_WORDS];
        int wordCount;
        final Saying[] wishes = new Saying[MOST_WISHES];
        int wishCount;
        final Saying[] seen = new Saying[MOST_SEEN];
        int seenCount;
        final int[] beatRow = new int[MOST_BEATS];
        int beatCount;

        Fan() {
            for (int i = 0; i < words.length; i++) {
                words[i] = new Saying();
            }
            for (int i = 0; i < wishes.length; i++) {
                wishes[i] = new Saying();
            }
            for (int i = 0; i < seen.length; i++) {
                seen[i] = new Saying();
            }
        }

        void forget() {
            ribCount = 0;
            wide = 0;
            price = 0;
            left = false;
            toldRibs = 0;
            start.wipe();
            wordCount = 0;
            wishCount = 0;
            seenCount = 0;
            beatCount = 0;
        }

        int openings() {
            return (left ? wide * (ribCount - 1) : wide) + 1;
        }

        // How many CELLS of a rib that isn't broken show: the one on top is never covered.
        int openCells(int side, int rib, int opening) {
            int top = side == FRONT ? ribCount - 1 : 0;
            if (rib == top) {
                return wide;
            }
            return left ? Math.max(0, Math.min(wide, opening - wide * rib)) : opening;
        }

        int wholeLength(int side, int opening) {
            int length = 0;
            for (int rib = 0; rib < ribCount; rib++) {
                length += openCells(side, rib, opening);
            }
            return length;
        }

        boolean isWished(Saying word, int side, int opening) {
            for (int i = 0; i < wishCount; i++) {
                Saying wish = wishes[i];
                if (wish.side == side && wish.opening == opening && wish.sameLetters(word)) {
                    return true;
                }
            }
            return false;
        }
    }

    /** All that acts change. */
    private static final class Painting {
        final int[] letters = new int[SIDES * MOST_CELLS];
        int brokenBits;
        int now;

        void wipe() {
            for (int i = 0; i < letters.length; i++) {
                letters[i] = BARE;
            }
            brokenBits = 0;
            now = 0;
        }

        void copyFrom(Painting other) {
            System.arraycopy(other.letters, 0, letters, 0, letters.length);
            brokenBits = other.brokenBits;
            now = other.now;
        }

        int letterOf(int side, int cell) {
            int index = cellIndex(side, cell);
            return index < 0 || index >= letters.length ? BARE : letters[index];
        }

        boolean lacksRib(int rib) {
            return (brokenBits >> rib & 1) != 0;
        }

        int countPainted() {
            int count = 0;
            for (int i = 0; i < letters.length; i++) {
                if (letters[i] != BARE) {
                    count++;
                }
            }
            return count;
        }
    }

    /** What shows on a SIDE at an OPENING: at each PLACE the CELL and its letter. */
    private static final class Row {
        final int[] cells = new int[MOST_CELLS];
        final int[] letters = new int[MOST_CELLS];
        int length;

        void look(Fan fan, Painting painting, int brokenBits, int side, int opening) {
            length = 0;
            for (int i = 0; i < fan.ribCount; i++) {
                int rib = side == FRONT ? i : fan.ribCount - 1 - i;
                if ((brokenBits >> rib & 1) == 0) {
                    int first = fan.wide * rib;
                    addCells(painting, side, first, first + fan.openCells(side, rib, opening));
                }
            }
        }

        private void addCells(Painting painting, int side, int first, int behind) {
            for (int cell = first; cell < behind && length < cells.length; cell++) {
                cells[length] = cell;
                letters[length] = painting.letterOf(side, cell);
                length++;
            }
        }

        // How many letters other than the saying's stand where it would; more than it has if it has no room there.
        int strangeAt(Saying saying, int place) {
            if (place < 0 || place + saying.length > length) {
                return MOST_LETTERS + 1;
            }
            int count = 0;
            for (int i = 0; i < saying.length; i++) {
                if (letters[place + i] != saying.letters[i]) {
                    count++;
                }
            }
            return count;
        }

        int timesRead(Saying word) {
            if (word.hasBare()) {
                return 0;
            }
            int count = 0;
            for (int place = 0; place + word.length <= length; place++) {
                if (strangeAt(word, place) == 0) {
                    count++;
                }
            }
            return count;
        }

        int firstRead(Saying word) {
            if (word.hasBare()) {
                return LACKING;
            }
            for (int place = 0; place + word.length <= length; place++) {
                if (strangeAt(word, place) == 0) {
                    return place;
                }
            }
            return LACKING;
        }

        boolean isRead(Saying word) {
            return firstRead(word) != LACKING;
        }

        int cheapestPlace(Saying wish) {
            if (wish.hasBare()) {
                return LACKING;
            }
            int best = LACKING;
            int fewest = MOST_LETTERS + 1;
            for (int place = 0; place + wish.length <= length; place++) {
                int strange = strangeAt(wish, place);
                if (strange < fewest) {
                    fewest = strange;
                    best = place;
                }
            }
            return best;
        }

        int countUnlike(Row other) {
            int both = Math.min(length, other.length);
            int count = Math.max(length, other.length) - both;
            for (int place = 0; place < both; place++) {
                if (letters[place] != other.letters[place]) {
                    count++;
                }
            }
            return count;
        }
    }

    /** Reads the text of a FAN, up to its first FAULT. */
    private static final class Reader {
        private static final int FORM = 1;
        private static final int AGAIN = 3;
        private static final int BOUNDS = 4;
        private static final int MANY = 5;
        private static final int LACKS = 6;
        private static final int BEYOND = 7;

        private static final int END = 0;
        private static final int WORD = 1;
        private static final int WHOLE = 2;
        private static final int SEMICOLON = 3;
        private static final int COMMA = 4;
        private static final int NO_TOKEN = 5;

        final byte[] text = new byte[TAPE_ROOM];
        private int end;
        // A FAN of the reader's own, so that a FAULT leaves the one in use as it was.
        private Fan fan = new Fan();
        private boolean begun;
        // The TOKEN that is looked at, and the number that the latest one taken tells.
        private int kind;
        private int start;
        private int length;
        private int taken;
        int faultFound;
        int faultPlace = NONE;

        // The FAN just read, for one that isn't used any more.
        Fan exchange(Fan old) {
            Fan ready = fan;
            fan = old;
            return ready;
        }

        boolean readFan(int n) {
            end = Math.min(n, text.length);
            fan.forget();
            begun = false;
            faultFound = 0;
            faultPlace = NONE;
            start = 0;
            length = 0;
            step();
            for (int lines = 0; lines <= TAPE_ROOM; lines++) {
                if (!readLine()) {
                    return false;
                }
                if (kind == END) {
                    return true;
                }
                if (kind != SEMICOLON) {
                    return fail(FORM);
                }
                step();
            }
            return fail(FORM);
        }

        private boolean fail(int number) {
            faultFound = number;
            faultPlace = start;
            return false;
        }

        // ---- TOKENS

        private void step() {
            start += length;
            length = 0;
            while (start < end && text[start] == ' ') {
                start++;
            }
            while (start + length < end && text[start + length] >= 'a' && text[start + length] <= 'z') {
                length++;
            }
            if (length > 0) {
                kind = length <= MOST_LETTERS ? WORD : NO_TOKEN;
                return;
            }
            while (start + length < end && text[start + length] >= '0' && text[start + length] <= '9') {
                length++;
            }
            if (length > 0) {
                kind = length <= MOST_DIGITS ? WHOLE : NO_TOKEN;
                return;
            }
            if (start >= end) {
                kind = END;
                return;
            }
            length = 1;
            kind = text[start] == ';' ? SEMICOLON : text[start] == ',' ? COMMA : NO_TOKEN;
        }

        private boolean isName(String name) {
            if (kind != WORD || length != name.length()) {
                return false;
            }
            for (int i = 0; i < length; i++) {
                if (text[start + i] != name.charAt(i)) {
                    return false;
                }
            }
            return true;
        }

        private int letterAt(int i) {
            return text[start + i] - 'a';
        }

        // ---- parts of LINES; each takes its TOKEN, or tells the FAULT at it

        private boolean takeName(String name) {
            if (!isName(name)) {
                return fail(FORM);
            }
            step();
            return true;
        }

        // One of two names: which one, 0 or 1, is taken.
        private boolean takeOneOf(String name, String other) {
            if (!isName(name) && !isName(other)) {
                return fail(FORM);
            }
            taken = isName(name) ? 0 : 1;
            step();
            return true;
        }

        private boolean isWholeWithin(int least, int most) {
            if (kind != WHOLE) {
                return fail(FORM);
            }
            taken = 0;
            for (int i = 0; i < length; i++) {
                taken = 10 * taken + text[start + i] - '0';
            }
            return taken >= least && taken <= most || fail(BOUNDS);
        }

        private boolean takeWhole(int least, int most) {
            if (!isWholeWithin(least, most)) {
                return false;
            }
            step();
            return true;
        }

        // Leaves the TOKEN in place, as what else may be wrong with the WORD is told at it, too.
        private boolean copyWord(Saying into) {
            if (kind != WORD) {
                return fail(FORM);
            }
            into.length = Math.min(length, into.letters.length);
            for (int i = 0; i < into.length; i++) {
                into.letters[i] = letterAt(i);
            }
            return true;
        }

        // ---- LINES

        private boolean readLine() {
            if (isName("fan")) {
                return readFanLine();
            }
            boolean known = isName("rib") || isName("word") || isName("wish") || isName("seen") || isName("beat");
            if (!known) {
                return fail(FORM);
            }
            if (!begun) {
                return fail(LACKS);
            }
            if (isName("rib")) {
                return readRib();
            }
            if (isName("word")) {
                return readWord();
            }
            if (isName("wish")) {
                return readWish();
            }
            return isName("seen") ? readSeen() : readBeats();
        }

        private boolean readFanLine() {
            if (begun) {
                return fail(AGAIN);
            }
            begun = true;
            step();
            if (!takeName("ribs") || !takeWhole(LEAST_RIBS, MOST_RIBS)) {
                return false;
            }
            fan.ribCount = taken;
            if (!takeName("wide") || !takeWhole(1, MOST_WIDE)) {
                return false;
            }
            fan.wide = taken;
            if (!takeName("price") || !takeWhole(0, MOST_PRICE)) {
                return false;
            }
            fan.price = taken;
            if (!takeName("opens") || !takeOneOf("even", "left")) {
                return false;
            }
            fan.left = taken == 1;
            return true;
        }

        private boolean readRib() {
            if (fan.toldRibs >= fan.ribCount) {
                return fail(MANY);
            }
            step();
            if (!takeCells(FRONT) || !takeCells(BACK)) {
                return false;
            }
            if (isName("broken")) {
                fan.start.brokenBits |= 1 << fan.toldRibs;
                step();
            }
            fan.toldRibs++;
            return true;
        }

        private boolean takeCells(int side) {
            if (kind != WORD) {
                return fail(FORM);
            }
            if (length != fan.wide) {
                return fail(BOUNDS);
            }
            for (int i = 0; i < length; i++) {
                int index = cellIndex(side, fan.wide * fan.toldRibs + i);
                if (index >= 0 && index < fan.start.letters.length) {
                    fan.start.letters[index] = letterAt(i);
                }
            }
            step();
            return true;
        }

        private boolean readWord() {
            if (fan.wordCount >= fan.words.length) {
                return fail(MANY);
            }
            step();
            Saying word = fan.words[fan.wordCount];
            if (!copyWord(word)) {
                return false;
            }
            for (int i = 0; i < fan.wordCount; i++) {
                if (word.sameLetters(fan.words[i])) {
                    return fail(AGAIN);
                }
            }
            step();
            fan.wordCount++;
            return true;
        }

        private boolean readWish() {
            if (fan.wishCount >= fan.wishes.length) {
                return fail(MANY);
            }
            step();
            Saying wish = fan.wishes[fan.wishCount];
            if (!copyWord(wish)) {
                return false;
            }
            step();
            if (!takeView(wish)) {
                return false;
            }
            fan.wishCount++;
            return true;
        }

        private boolean takeView(Saying into) {
            if (!takeOneOf("front", "back")) {
                return false;
            }
            into.side = taken;
            if (!takeWhole(0, fan.openings() - 1)) {
                return false;
            }
            into.opening = taken;
            return true;
        }

        private boolean readSeen() {
            if (fan.seenCount >= fan.seen.length) {
                return fail(MANY);
            }
            step();
            Saying seen = fan.seen[fan.seenCount];
            if (!takeView(seen)) {
                return false;
            }
            int showing = fan.wholeLength(seen.side, seen.opening);
            if (!takeName("from") || !takeWhole(0, showing - 1)) {
                return false;
            }
            seen.place = taken;
            if (!copyWord(seen)) {
                return false;
            }
            if (seen.place + seen.length > showing) {
                return fail(BEYOND);
            }
            step();
            fan.seenCount++;
            return true;
        }

        private boolean readBeats() {
            if (fan.beatCount > 0) {
                return fail(AGAIN);
            }
            for (int i = 0; i <= fan.beatRow.length; i++) {
                step();
                if (!isWholeWithin(0, fan.openings() - 1)) {
                    return false;
                }
                if (i >= fan.beatRow.length) {
                    return fail(MANY);
                }
                fan.beatRow[i] = taken;
                fan.beatCount = i + 1;
                step();
                if (kind != COMMA) {
                    return true;
                }
            }
            return fail(FORM);
        }
    }

    /** The latest ACTS, each with what it changed. */
    private static final class Acts {
        static final int PAINT = 0;
        static final int BREAK = 1;
        static final int MOVE = 2;

        private final int[] kinds = new int[MOST_ACTS];
        private final int[] places = new int[MOST_ACTS];
        private final int[] values = new int[MOST_ACTS];
        int count;

        void forget() {
            count = 0;
        }

        void keep(int kind, int place, int before) {
            if (count >= MOST_ACTS) {
                dropOldest();
            }
            kinds[count] = kind;
            places[count] = place;
            values[count] = before;
            count++;
        }

        private void dropOldest() {
            for (int i = 1; i < MOST_ACTS; i++) {
                kinds[i - 1] = kinds[i];
                places[i - 1] = places[i];
                values[i - 1] = values[i];
            }
            count = MOST_ACTS - 1;
        }

        boolean takeBack(Painting painting) {
            if (count <= 0) {
                return false;
            }
            count--;
            int place = places[count];
            if (kinds[count] == BREAK) {
                painting.brokenBits = values[count];
            } else if (kinds[count] == MOVE) {
                painting.now = values[count];
            } else if (place >= 0 && place < painting.letters.length) {
                painting.letters[place] = values[count];
            }
            return true;
        }
    }

    /** What is SURE by what was seen; acts don't change it. */
    private static final class Sight {
        private final int[] sureLetters = new int[SIDES * MOST_CELLS];
        int clashing = LACKING;

        void study(Fan fan, Row row) {
            for (int i = 0; i < sureLetters.length; i++) {
                sureLetters[i] = UNSURE;
            }
            clashing = LACKING;
            for (int i = 0; i < fan.seenCount && clashing == LACKING; i++) {
                Saying seen = fan.seen[i];
                row.look(fan, fan.start, 0, seen.side, seen.opening);
                if (contradicts(seen, row)) {
                    clashing = i;
                } else {
                    learn(seen, row);
                }
            }
        }

        private boolean contradicts(Saying seen, Row row) {
            for (int i = 0; i < seen.length && seen.place + i < row.length; i++) {
                int letter = sureLetter(seen.side, row.cells[seen.place + i]);
                if (letter != UNSURE && letter != seen.letters[i]) {
                    return true;
                }
            }
            return false;
        }

        private void learn(Saying seen, Row row) {
            for (int i = 0; i < seen.length && seen.place + i < row.length; i++) {
                int index = cellIndex(seen.side, row.cells[seen.place + i]);
                if (index >= 0 && index < sureLetters.length) {
                    sureLetters[index] = seen.letters[i];
                }
            }
        }

        int sureLetter(int side, int cell) {
            int index = cellIndex(side, cell);
            return index < 0 || index >= sureLetters.length ? UNSURE : sureLetters[index];
        }

        int countSure() {
            int count = 0;
            for (int i = 0; i < sureLetters.length; i++) {
                if (sureLetters[i] != UNSURE) {
                    count++;
                }
            }
            return count;
        }

        int countUnsure(Row row, int side) {
            int count = 0;
            for (int place = 0; place < row.length; place++) {
                if (sureLetter(side, row.cells[place]) == UNSURE) {
                    count++;
                }
            }
            return count;
        }
    }

    /** Finds MEND of all: tries the PLACES of every wish, as long as that may still become the fewest. */
    private static final class Mender {
        private static final int FREE = -1;
        private static final int CONTRARY = -1;
        private static final int UNREACHED = MOST_WISHES * MOST_LETTERS + 1;

        private final Row[] rows = new Row[MOST_WISHES];
        private final Saying[] wishes = new Saying[MOST_WISHES];
        private int count;
        private final int[] needed = new int[MOST_CELLS];
        private final int[] neededBy = new int[MOST_CELLS];
        // What a wish costs from each PLACE, beside those that have theirs already.
        private final int[] costs = new int[MOST_WISHES * MOST_CELLS];
        // How much two wishes can save together at most, by CELLS that both need.
        private final int[] savings = new int[MOST_WISHES * MOST_WISHES];
        private int fewest;

        Mender() {
            for (int i = 0; i < rows.length; i++) {
                rows[i] = new Row();
                wishes[i] = new Saying();
            }
        }

        // Wishes on the two SIDES share no CELL, so each SIDE is mended on its own.
        int fewestForAll(Fan fan, Painting painting) {
            int sum = 0;
            for (int side = FRONT; side <= BACK; side++) {
                gather(fan, painting, side);
                if (lacksPlace()) {
                    return LACKING;
                }
                compareWishes();
                fewest = UNREACHED;
                tryPlaces(0, 0);
                if (fewest == UNREACHED) {
                    return LACKING;
                }
                sum += fewest;
            }
            return sum;
        }

        // The longest come first: short ones behind them often cost nothing, which ends the search soon.
        private void gather(Fan fan, Painting painting, int side) {
            count = 0;
            for (int length = MOST_LETTERS; length > 0; length--) {
                for (int i = 0; i < fan.wishCount; i++) {
                    Saying wish = fan.wishes[i];
                    if (wish.side == side && wish.length == length) {
                        wishes[count] = wish;
                        rows[count].look(fan, painting, painting.brokenBits, side, wish.opening);
                        count++;
                    }
                }
            }
            for (int i = 0; i < needed.length; i++) {
                needed[i] = FREE;
                neededBy[i] = FREE;
            }
        }

        private boolean lacksPlace() {
            for (int i = 0; i < count; i++) {
                if (wishes[i].hasBare() || lastPlace(i) < 0) {
                    return true;
                }
            }
            return false;
        }

        private int lastPlace(int wish) {
            return rows[wish].length - wishes[wish].length;
        }

        private void compareWishes() {
            for (int i = 0; i < count; i++) {
                for (int j = i + 1; j < count; j++) {
                    savings[i * MOST_WISHES + j] = mostSaved(i, j);
                }
            }
        }

        private int mostSaved(int one, int other) {
            int most = 0;
            for (int place = 0; place <= lastPlace(one); place++) {
                claim(one, place);
                for (int at = 0; at <= lastPlace(other); at++) {
                    int more = costFrom(other, at);
                    if (more != CONTRARY) {
                        most = Math.max(most, rows[other].strangeAt(wishes[other], at) - more);
                    }
                }
                release(one, place);
            }
            return most;
        }

        // The cheapest PLACES come first, so that all from the first too dear one on can be left out.
        private void tryPlaces(int depth, int spent) {
            if (depth >= count || depth >= MOST_WISHES) {
                fewest = Math.min(fewest, spent);
                return;
            }
            int least = spent;
            for (int wish = depth + 1; wish < count; wish++) {
                least += leastBeside(depth, wish);
            }
            weighPlaces(depth);
            for (int more = 0; more <= MOST_LETTERS && least + more < fewest; more++) {
                for (int place = 0; place <= lastPlace(depth) && least + more < fewest; place++) {
                    if (costs[depth * MOST_CELLS + place] == more) {
                        claim(depth, place);
                        tryPlaces(depth + 1, spent + more);
                        release(depth, place);
                    }
                }
            }
        }

        // What a wish costs at least, whatever PLACES those from a depth on ahead of it come to.
        private int leastBeside(int depth, int wish) {
            int least = weighPlaces(wish);
            if (least == UNREACHED) {
                return UNREACHED;
            }
            for (int i = depth; i < wish; i++) {
                least -= savings[i * MOST_WISHES + wish];
            }
            return Math.max(0, least);
        }

        private int weighPlaces(int wish) {
            int least = UNREACHED;
            for (int place = 0; place <= lastPlace(wish); place++) {
                int more = costFrom(wish, place);
                costs[wish * MOST_CELLS + place] = more;
                if (more != CONTRARY) {
                    least = Math.min(least, more);
                }
            }
            return least;
        }

        // How many CELLS more are to be painted anew if a wish is READ from a PLACE.
        private int costFrom(int wish, int place) {
            Row row = rows[wish];
            int[] letters = wishes[wish].letters;
            int more = 0;
            for (int i = 0; i < wishes[wish].length; i++) {
                int need = needed[row.cells[place + i]];
                if (need == FREE) {
                    more += row.letters[place + i] == letters[i] ? 0 : 1;
                } else if (need != letters[i]) {
                    return CONTRARY;
                }
            }
            return more;
        }

        private void claim(int wish, int place) {
            for (int i = 0; i < wishes[wish].length; i++) {
                int cell = rows[wish].cells[place + i];
                if (needed[cell] == FREE) {
                    needed[cell] = wishes[wish].letters[i];
                    neededBy[cell] = wish;
                }
            }
        }

        private void release(int wish, int place) {
            for (int i = 0; i < wishes[wish].length; i++) {
                int cell = rows[wish].cells[place + i];
                if (neededBy[cell] == wish) {
                    needed[cell] = FREE;
                    neededBy[cell] = FREE;
                }
            }
        }
    }

    /** Finds PACK: the shortest row for each set of words, word behind word with as much overlap as there is. */
    private static final class Packer {
        private static final int SETS = 1 << MOST_WORDS;
        private static final int ENDLESS = 1000;

        private final int[] overlaps = new int[MOST_WORDS * MOST_WORDS];
        private final int[] holders = new int[MOST_WORDS];
        // The shortest row of a set of words whose last word is given.
        private final int[] shortest = new int[SETS * MOST_WORDS];
        int bestBits;
        int bestLength;

        void packWords(Fan fan) {
            int usable = 0;
            for (int word = 0; word < fan.wordCount; word++) {
                if (!fan.words[word].hasBare()) {
                    usable |= 1 << word;
                }
            }
            compareWords(fan);
            bestBits = 0;
            bestLength = 0;
            for (int bits = 1; bits < 1 << fan.wordCount; bits++) {
                if ((bits & ~usable) == 0) {
                    findShortest(fan, bits);
                    weigh(bits, shortestOf(fan, withoutHeld(fan, bits)), fan.ribCount * fan.wide);
                }
            }
        }

        private void compareWords(Fan fan) {
            for (int i = 0; i < fan.wordCount; i++) {
                holders[i] = 0;
                for (int j = 0; j < fan.wordCount; j++) {
                    overlaps[i * MOST_WORDS + j] = overlapOf(fan.words[i], fan.words[j]);
                    if (i != j && fan.words[i].liesIn(fan.words[j])) {
                        holders[i] |= 1 << j;
                    }
                }
            }
        }

        private static int overlapOf(Saying word, Saying next) {
            for (int count = Math.min(word.length, next.length) - 1; count > 0; count--) {
                if (word.endsAsBegins(next, count)) {
                    return count;
                }
            }
            return 0;
        }

        // Words that lie in others of the set come with them.
        private int withoutHeld(Fan fan, int bits) {
            int rest = bits;
            for (int word = 0; word < fan.wordCount; word++) {
                if ((holders[word] & bits) != 0) {
                    rest &= ~(1 << word);
                }
            }
            return rest;
        }

        // All smaller sets come ahead of a set, as their bits are less.
        private void findShortest(Fan fan, int bits) {
            for (int last = 0; last < fan.wordCount; last++) {
                int index = bits * MOST_WORDS + last;
                int rest = bits & ~(1 << last);
                if (rest == bits) {
                    shortest[index] = ENDLESS;
                } else if (rest == 0) {
                    shortest[index] = fan.words[last].length;
                } else {
                    shortest[index] = fan.words[last].length + shortestAhead(fan, rest, last);
                }
            }
        }

        private int shortestAhead(Fan fan, int rest, int last) {
            int least = ENDLESS;
            for (int word = 0; word < fan.wordCount; word++) {
                if ((rest >> word & 1) != 0) {
                    least = Math.min(least, shortest[rest * MOST_WORDS + word] - overlaps[word * MOST_WORDS + last]);
                }
            }
            return least;
        }

        private int shortestOf(Fan fan, int bits) {
            int least = ENDLESS;
            for (int last = 0; last < fan.wordCount; last++) {
                least = Math.min(least, shortest[bits * MOST_WORDS + last]);
            }
            return least;
        }

        private void weigh(int bits, int length, int room) {
            int more = Integer.bitCount(bits) - Integer.bitCount(bestBits);
            if (length <= room && (more > 0 || more == 0 && length < bestLength)) {
                bestBits = bits;
                bestLength = length;
            }
        }
    }

    /** Finds CALM: goes through the orders of beats by their numbers, so that the first of like ones stays. */
    private static final class Calmer {
        private static final int UNREACHED = MOST_BEATS * MOST_CELLS + 1;

        final int[] smears = new int[MOST_BEATS * MOST_BEATS];
        final int[] bestOrder = new int[MOST_BEATS];
        private final int[] order = new int[MOST_BEATS];
        private int count;
        int least;

        void settle(int beatCount) {
            count = Math.min(beatCount, MOST_BEATS);
            least = UNREACHED;
            tryOrders(0, 0, 0);
        }

        private void tryOrders(int depth, int used, int sum) {
            if (sum >= least) {
                return;
            }
            if (depth >= count) {
                least = sum;
                System.arraycopy(order, 0, bestOrder, 0, bestOrder.length);
                return;
            }
            for (int beat = 0; beat < count; beat++) {
                if ((used >> beat & 1) == 0) {
                    order[depth] = beat;
                    int more = depth == 0 ? 0 : smears[order[depth - 1] * MOST_BEATS + beat];
                    tryOrders(depth + 1, used | 1 << beat, sum + more);
                }
            }
        }
    }
}
