/** Flags at sea: a book of sentences by codes, and a message of them made into hoists. */
public final class FlagHoists {
    public static final int BAD = -1, STATE = -2, FULL = -3, NONE = -9;

    private static final int FLAGS = 8;
    private static final int COLOURS = 8;
    private static final int LEAST_SIZE = 1;
    private static final int MOST_SIZE = 9;
    private static final int SIZE_AT_FIRST = 5;
    private static final int CODE_ROOM = 4;
    private static final int BOOK_ROOM = 10;
    private static final int LEAST_PLACES = 3;
    private static final int MOST_PLACES = 7;
    private static final int PLACES_AT_FIRST = 5;
    private static final int TEXT_ROOM = 120;
    private static final int MOST_LETTER = 255;
    private static final int FAULT_BASE = -10;
    private static final int MESSAGE_ROOM = 8;
    private static final int UNDO_ROOM = 10;
    private static final int SEEN_ROOM = 6;
    private static final int IMAGES = 2;
    private static final int FARTHEST_DISTANCE = 9;
    private static final int SUBSTITUTES = 3;
    private static final int SUBSTITUTE_BASE = 10;
    private static final int TACK = 20;

    private final Text text;
    private final Reader reader;
    private final Book known;
    private final Signal now;
    private final History history;
    private final Signal[] images;
    private final boolean[] kept;
    private final Sightings seen;
    private final Cut cut;

    public FlagHoists() {
        text = new Text();
        reader = new Reader(text);
        known = new Book();
        now = new Signal();
        now.begin(known.places);
        history = new History();
        images = new Signal[IMAGES];
        for (int i = 0; i < IMAGES; i++) {
            images[i] = new Signal();
        }
        kept = new boolean[IMAGES];
        seen = new Sightings();
        cut = new Cut(known);
    }

    // ---- the book

    public int type(int letter) {
        if (letter < 0 || letter > MOST_LETTER) {
            return BAD;
        }
        if (text.length >= TEXT_ROOM) {
            return FULL;
        }
        text.letters[text.length] = letter;
        text.length++;
        return text.length;
    }

    public int clear() {
        int had = text.length;
        text.length = 0;
        return had;
    }

    public int book() {
        int answer = reader.readAll();
        if (answer < 0) {
            return answer;
        }
        known.copyFrom(reader.draft);
        text.length = 0;
        now.begin(known.places);
        history.size = 0;
        seen.size = 0;
        for (int i = 0; i < IMAGES; i++) {
            kept[i] = false;
        }
        return answer;
    }

    public int flag(int f, int what) {
        if (f < 0 || f >= FLAGS || what < 0 || what > 1) {
            return BAD;
        }
        return what == 0 ? known.colours[f] : known.sizes[f];
    }

    public int code(int s, int i) {
        if (!known.has(s) || i < -1) {
            return BAD;
        }
        if (i == -1) {
            return known.lengthOf(s);
        }
        return i < known.lengthOf(s) ? known.letterOf(s, i) : NONE;
    }

    public int sorted(int k) {
        if (k < 0) {
            return BAD;
        }
        for (int s = 0; s < known.size; s++) {
            if (known.rankOf(s) == k) {
                return s;
            }
        }
        return NONE;
    }

    public int first(int letter) {
        if (letter < 0 || letter >= FLAGS) {
            return BAD;
        }
        return known.firstFrom(letter);
    }

    // ---- what is done

    public int puts(int place, int s) {
        if (place < 0 || place > now.size || !known.has(s)) {
            return BAD;
        }
        if (now.size >= MESSAGE_ROOM) {
            return FULL;
        }
        history.remember(now);
        now.insert(place, s);
        return now.size;
    }

    public int takes(int place) {
        if (!now.hasPlace(place)) {
            return BAD;
        }
        history.remember(now);
        return now.remove(place);
    }

    public int places(int n) {
        if (n < LEAST_PLACES || n > MOST_PLACES) {
            return BAD;
        }
        if (n == now.places) {
            return STATE;
        }
        history.remember(now);
        int were = now.places;
        now.places = n;
        now.nothingSent();
        return were;
    }

    public int sends() {
        cut.make(now, NONE);
        if (now.isUp() || !cut.made || now.understood >= cut.hoists) {
            return STATE;
        }
        history.remember(now);
        now.times = 1;
        return now.understood;
    }

    public int answers(int how) {
        if (how < 0 || how > 1) {
            return BAD;
        }
        if (!now.isUp()) {
            return STATE;
        }
        history.remember(now);
        return how == 0 ? now.sendAgain() : now.takeDown();
    }

    public int undo() {
        if (history.size == 0) {
            return STATE;
        }
        history.restore(now);
        return history.size;
    }

    // ---- the message

    public int message(int place) {
        return now.hasPlace(place) ? now.sentences[place] : BAD;
    }

    public int hoist(int k, int what) {
        if (k < 0 || what < 0 || what > 3) {
            return BAD;
        }
        cut.make(now, NONE);
        if (!cut.has(k)) {
            return NONE;
        }
        cut.show(k);
        switch (what) {
            case 0:
                return cut.starts[k];
            case 1:
                return cut.starts[k + 1] - cut.starts[k];
            case 2:
                return cut.rope.size;
            default:
                return cut.rope.substitutes;
        }
    }

    public int thing(int k, int i) {
        if (k < 0 || i < 0) {
            return BAD;
        }
        cut.make(now, NONE);
        if (!cut.has(k)) {
            return NONE;
        }
        cut.show(k);
        return i < cut.rope.size ? cut.rope.things[i] : NONE;
    }

    // ---- from afar

    public int told(int s, int other, int distance) {
        if (!known.has(s) || !known.has(other) || !isDistance(distance)) {
            return BAD;
        }
        return known.mayBe(s, other, distance) ? 1 : 0;
    }

    public int meanings(int k, int distance) {
        if (k < 0 || !isDistance(distance)) {
            return BAD;
        }
        cut.make(now, NONE);
        return cut.has(k) ? cut.waysToRead(k, distance) : NONE;
    }

    // ---- which sentence

    public int sees(int k, int n) {
        if (k < 0 || k >= MESSAGE_ROOM || n < 0 || n > MOST_PLACES) {
            return BAD;
        }
        if (seen.size >= SEEN_ROOM) {
            return FULL;
        }
        seen.note(k, n);
        return seen.size;
    }

    public int forget() {
        int had = seen.size;
        seen.size = 0;
        return had;
    }

    public int unseen() {
        int bits = 0;
        for (int place = 0; place < now.size; place++) {
            cut.make(now, place);
            if (cut.made && seen.allFit(cut)) {
                bits |= 1 << place;
            }
        }
        return bits;
    }

    // ---- images

    public int keep(int image) {
        if (image < 0 || image >= IMAGES) {
            return BAD;
        }
        images[image].copyFrom(now);
        kept[image] = true;
        return now.size;
    }

    public int back(int image) {
        if (image < 0 || image >= IMAGES) {
            return BAD;
        }
        if (!kept[image]) {
            return STATE;
        }
        now.copyFrom(images[image]);
        history.size = 0;
        return now.size;
    }

    public int count(int what) {
        switch (what) {
            case 0:
                return known.size;
            case 1:
                return now.size;
            case 2:
                return now.places;
            case 3:
                cut.make(now, NONE);
                return cut.made ? cut.hoists : NONE;
            case 4:
                cut.make(now, NONE);
                return cut.made ? cut.farthest() : NONE;
            case 5:
                return now.isUp() ? now.understood : NONE;
            case 6:
                return now.understood;
            case 7:
                return seen.size;
            case 8:
                return text.length;
            case 9:
                return history.size;
            default:
                return BAD;
        }
    }

    private static boolean isDistance(int distance) {
        return distance >= 1 && distance <= FARTHEST_DISTANCE;
    }

    /** THE TEXT, and its TOKENS one after the other. */
    private static final class Text {
        static final int END = -1;
        static final int WRONG = -2;

        final int[] letters = new int[TEXT_ROOM];
        int length;
        /** A TOKEN is told by its letter (a NUMBER has one alone), or is END, or WRONG: it stands nowhere. */
        int token;
        int start;
        int behind;

        void rewind() {
            behind = 0;
            step();
        }

        void step() {
            start = behind;
            while (start < length && letters[start] == ' ') {
                start++;
            }
            if (start >= length) {
                token = END;
                return;
            }
            token = letters[start];
            behind = start + 1;
            if (isDigit(token)) {
                // A digit behind a digit: the NUMBER is above 9, or has a 0 ahead.
                while (behind < length && isDigit(letters[behind])) {
                    token = WRONG;
                    behind++;
                }
            }
        }

        private static boolean isDigit(int letter) {
            return letter >= '0' && letter <= '9';
        }
    }

    /** Reads THE TEXT into a draft, so that a FAULT leaves what is known as it was. */
    private static final class Reader {
        final Book draft;
        private final Text text;
        private boolean placesTold;

        Reader(Text text) {
            this.text = text;
            draft = new Book();
        }

        /** How many ITEMS, or FAULT_BASE less FAULT: a refused TOKEN is the one that the text stands at. */
        int readAll() {
            draft.reset();
            placesTold = false;
            text.rewind();
            int items = 0;
            while (items < TEXT_ROOM && text.token != Text.END) {
                if (!readItem()) {
                    return FAULT_BASE - text.start;
                }
                items++;
            }
            return items;
        }

        private boolean readItem() {
            boolean told;
            switch (text.token) {
                case 'p':
                    told = readPlaces();
                    break;
                case 'f':
                    told = readFlag();
                    break;
                case 'k':
                    told = readCode();
                    break;
                default:
                    told = false;
                    break;
            }
            return told && take(';', 0, 0) != NONE;
        }

        private boolean readPlaces() {
            if (placesTold) {
                return false;
            }
            text.step();
            int places = take('0', LEAST_PLACES, MOST_PLACES);
            if (places == NONE) {
                return false;
            }
            draft.places = places;
            placesTold = true;
            return true;
        }

        private boolean readFlag() {
            text.step();
            int f = take('a', 0, FLAGS - 1);
            if (f == NONE) {
                return false;
            }
            int colour = take('0', 0, COLOURS - 1);
            if (colour == NONE) {
                return false;
            }
            int size = take('0', LEAST_SIZE, MOST_SIZE);
            if (size == NONE) {
                return false;
            }
            draft.colours[f] = colour;
            draft.sizes[f] = size;
            return true;
        }

        private boolean readCode() {
            if (draft.size >= BOOK_ROOM) {
                return false;
            }
            text.step();
            int letters = 0;
            int code = 0;
            for (int i = 0; i < CODE_ROOM && letters == i; i++) {
                int f = take('a', 0, FLAGS - 1);
                if (f != NONE) {
                    code |= Book.packed(f, i);
                    letters++;
                }
            }
            // The text stands behind the CODE now: at the ; that a CODE known already is refused at.
            if (letters == 0 || draft.hasCode(code)) {
                return false;
            }
            draft.add(code);
            return true;
        }

        /** Steps over a TOKEN whose letter is zero's, or so many behind it as low .. high: how many; NONE: it stays. */
        private int take(int zero, int low, int high) {
            int number = text.token - zero;
            if (number < low || number > high) {
                return NONE;
            }
            text.step();
            return number;
        }
    }

    /** FLAGS, SENTENCES, and PLACES as they were told. */
    private static final class Book {
        private static final int LETTER_BITS = 4;
        private static final int LETTER_MASK = 15;

        final int[] colours = new int[FLAGS];
        final int[] sizes = new int[FLAGS];
        /** A CODE's letters are packed, the first one highest, 0 behind the last: numbers go as the texts go. */
        final int[] codes = new int[BOOK_ROOM];
        int size;
        int places;

        Book() {
            reset();
        }

        void reset() {
            for (int f = 0; f < FLAGS; f++) {
                colours[f] = f;
                sizes[f] = SIZE_AT_FIRST;
            }
            size = 0;
            places = PLACES_AT_FIRST;
        }

        void copyFrom(Book other) {
            System.arraycopy(other.colours, 0, colours, 0, FLAGS);
            System.arraycopy(other.sizes, 0, sizes, 0, FLAGS);
            System.arraycopy(other.codes, 0, codes, 0, BOOK_ROOM);
            size = other.size;
            places = other.places;
        }

        static int packed(int letter, int i) {
            return (letter + 1) << shiftOf(i);
        }

        private static int shiftOf(int i) {
            return LETTER_BITS * (CODE_ROOM - 1 - i);
        }

        boolean has(int s) {
            return s >= 0 && s < size;
        }

        boolean hasCode(int code) {
            for (int s = 0; s < size; s++) {
                if (codes[s] == code) {
                    return true;
                }
            }
            return false;
        }

        void add(int code) {
            if (size < BOOK_ROOM) {
                codes[size] = code;
                size++;
            }
        }

        /** The i-th LETTER, i being 0 .. 3; NONE behind the last. */
        int letterOf(int s, int i) {
            if (!has(s)) {
                return NONE;
            }
            int part = (codes[s] >> shiftOf(i)) & LETTER_MASK;
            return part == 0 ? NONE : part - 1;
        }

        int lengthOf(int s) {
            int length = 0;
            while (length < CODE_ROOM && letterOf(s, length) != NONE) {
                length++;
            }
            return length;
        }

        int rankOf(int s) {
            if (!has(s)) {
                return NONE;
            }
            int ahead = 0;
            for (int other = 0; other < size; other++) {
                if (codes[other] < codes[s]) {
                    ahead++;
                }
            }
            return ahead;
        }

        int firstFrom(int letter) {
            int found = NONE;
            for (int s = 0; s < size; s++) {
                boolean behind = letterOf(s, 0) >= letter;
                if (behind && (found == NONE || codes[s] < codes[found])) {
                    found = s;
                }
            }
            return found;
        }

        boolean mayBe(int s, int other, int distance) {
            for (int i = 0; i < CODE_ROOM; i++) {
                if (!flagMayBe(letterOf(s, i), letterOf(other, i), distance)) {
                    return false;
                }
            }
            return true;
        }

        /** Both may be NONE, behind the last LETTER: that is like nothing but itself. */
        private boolean flagMayBe(int f, int other, int distance) {
            if (f == other) {
                return true;
            }
            return isBlurred(f, distance) && isBlurred(other, distance) && colours[f] == colours[other];
        }

        private boolean isBlurred(int f, int distance) {
            return f >= 0 && f < FLAGS && sizes[f] < distance;
        }

        int likenesses(int s, int distance) {
            int found = 0;
            for (int other = 0; other < size; other++) {
                if (mayBe(s, other, distance)) {
                    found++;
                }
            }
            return found;
        }
    }

    /** THE MESSAGE, PLACES, what was SENT: what is UNDONE, and what IMAGES keep. */
    private static final class Signal {
        final int[] sentences = new int[MESSAGE_ROOM];
        int size;
        int places;
        /** So many HOISTS are down, so this is the number of the one that is up or comes next. */
        int understood;
        /** How often the HOIST that is up was SENT; 0: none is up. */
        int times;

        void begin(int placesTold) {
            size = 0;
            places = placesTold;
            nothingSent();
        }

        void nothingSent() {
            understood = 0;
            times = 0;
        }

        boolean isUp() {
            return times > 0;
        }

        boolean hasPlace(int place) {
            return place >= 0 && place < size;
        }

        void insert(int place, int s) {
            if (place < 0 || place > size || size >= MESSAGE_ROOM) {
                return;
            }
            for (int i = size; i > place; i--) {
                sentences[i] = sentences[i - 1];
            }
            sentences[place] = s;
            size++;
            nothingSent();
        }

        int remove(int place) {
            if (!hasPlace(place)) {
                return NONE;
            }
            int s = sentences[place];
            size--;
            for (int i = place; i < size; i++) {
                sentences[i] = sentences[i + 1];
            }
            nothingSent();
            return s;
        }

        int sendAgain() {
            times++;
            return times;
        }

        int takeDown() {
            int sent = times;
            times = 0;
            understood++;
            return sent;
        }

        void copyFrom(Signal other) {
            System.arraycopy(other.sentences, 0, sentences, 0, MESSAGE_ROOM);
            size = other.size;
            places = other.places;
            understood = other.understood;
            times = other.times;
        }
    }

    /** What was ahead of the latest deeds, in a ring: the oldest gives way. */
    private static final class History {
        private final Signal[] ring = new Signal[UNDO_ROOM];
        private int oldest;
        int size;

        History() {
            for (int i = 0; i < UNDO_ROOM; i++) {
                ring[i] = new Signal();
            }
        }

        void remember(Signal signal) {
            ring[(oldest + size) % UNDO_ROOM].copyFrom(signal);
            if (size < UNDO_ROOM) {
                size++;
            } else {
                oldest = (oldest + 1) % UNDO_ROOM;
            }
        }

        void restore(Signal signal) {
            if (size > 0) {
                size--;
                signal.copyFrom(ring[(oldest + size) % UNDO_ROOM]);
            }
        }
    }

    /** What was SEEN. */
    private static final class Sightings {
        private final int[] hoists = new int[SEEN_ROOM];
        private final int[] things = new int[SEEN_ROOM];
        int size;

        void note(int k, int n) {
            if (size < SEEN_ROOM) {
                hoists[size] = k;
                things[size] = n;
                size++;
            }
        }

        boolean allFit(Cut cut) {
            for (int i = 0; i < size; i++) {
                if (cut.thingsOf(hoists[i]) != things[i]) {
                    return false;
                }
            }
            return true;
        }
    }

    /** One HOIST as it grows, thing by thing. */
    private static final class Rope {
        final int[] things = new int[MOST_PLACES];
        int size;
        int substitutes;
        private final int[] letters = new int[MOST_PLACES];
        private int lettersSize;
        /** Bit n: SUBSTITUTE n is shown. */
        private int shown;
        private int room;

        void begin(int places) {
            size = 0;
            substitutes = 0;
            lettersSize = 0;
            shown = 0;
            room = Math.min(places, MOST_PLACES);
        }

        /** Whether it is LAWFUL with this CODE too; if it is not, the HOIST can't grow to a LAWFUL one. */
        boolean addCode(Book book, int s) {
            if (size > 0 && !addThing(TACK)) {
                return false;
            }
            for (int i = 0; i < CODE_ROOM; i++) {
                int letter = book.letterOf(s, i);
                if (letter != NONE && !addLetter(letter)) {
                    return false;
                }
            }
            return true;
        }

        private boolean addLetter(int letter) {
            int shownBy = letter;
            if (isThere(letter)) {
                int n = freeSubstitute(letter);
                if (n == NONE) {
                    return false;
                }
                shown |= 1 << n;
                substitutes++;
                shownBy = SUBSTITUTE_BASE + n;
            }
            if (!addThing(shownBy)) {
                return false;
            }
            letters[lettersSize] = letter;
            lettersSize++;
            return true;
        }

        private boolean isThere(int letter) {
            for (int i = 0; i < lettersSize; i++) {
                if (letters[i] == letter) {
                    return true;
                }
            }
            return false;
        }

        private int freeSubstitute(int letter) {
            for (int n = 1; n <= SUBSTITUTES && n <= lettersSize; n++) {
                boolean free = (shown & (1 << n)) == 0;
                if (free && letters[n - 1] == letter) {
                    return n;
                }
            }
            return NONE;
        }

        private boolean addThing(int what) {
            if (size >= room) {
                return false;
            }
            things[size] = what;
            size++;
            return true;
        }
    }

    /** A message MADE: cut into as few LAWFUL HOISTS as can be. */
    private static final class Cut {
        boolean made;
        int hoists;
        /** HOIST k goes from starts[k] to ahead of starts[k + 1]. */
        final int[] starts = new int[MESSAGE_ROOM + 1];
        final Rope rope = new Rope();
        private final int[] row = new int[MESSAGE_ROOM];
        private int size;
        private int places;
        private final Book book;
        /** Of the row from i on: how few HOISTS it takes, and where the second of them begins. */
        private final int[] fewest = new int[MESSAGE_ROOM + 1];
        private final int[] next = new int[MESSAGE_ROOM + 1];

        Cut(Book book) {
            this.book = book;
        }

        /** The SENTENCE at the place gone is left out, if there is that place. */
        void make(Signal signal, int gone) {
            places = signal.places;
            size = 0;
            for (int i = 0; i < signal.size; i++) {
                if (i != gone) {
                    row[size] = signal.sentences[i];
                    size++;
                }
            }
            fewest[size] = 0;
            made = true;
            for (int i = size - 1; i >= 0 && made; i--) {
                made = findFewest(i);
            }
            hoists = 0;
            starts[0] = 0;
            while (made && hoists < MESSAGE_ROOM && starts[hoists] < size) {
                starts[hoists + 1] = next[starts[hoists]];
                hoists++;
            }
        }

        /** Of ends that need as few, the last one: the most SENTENCES come first. */
        private boolean findFewest(int i) {
            boolean found = false;
            rope.begin(places);
            for (int end = i + 1; end <= size && rope.addCode(book, row[end - 1]); end++) {
                int needed = fewest[end] + 1;
                if (!found || needed <= fewest[i]) {
                    fewest[i] = needed;
                    next[i] = end;
                    found = true;
                }
            }
            return found;
        }

        boolean has(int k) {
            return made && k >= 0 && k < hoists;
        }

        /** The rope becomes HOIST k, which there is. */
        void show(int k) {
            rope.begin(places);
            if (has(k)) {
                for (int i = starts[k]; i < starts[k + 1]; i++) {
                    rope.addCode(book, row[i]);
                }
            }
        }

        int thingsOf(int k) {
            show(k);
            return rope.size;
        }

        int waysToRead(int k, int distance) {
            int ways = 1;
            if (has(k)) {
                for (int i = starts[k]; i < starts[k + 1]; i++) {
                    ways *= book.likenesses(row[i], distance);
                }
            }
            return ways;
        }

        int farthest() {
            for (int distance = FARTHEST_DISTANCE; distance >= 1; distance--) {
                if (isReadOneWay(distance)) {
                    return distance;
                }
            }
            return 0;
        }

        /** A HOIST has one MEANING just if each of its CODES has, so it is no matter where the row is cut. */
        private boolean isReadOneWay(int distance) {
            for (int i = 0; i < size; i++) {
                if (book.likenesses(row[i], distance) != 1) {
                    return false;
                }
            }
            return true;
        }
    }
}
