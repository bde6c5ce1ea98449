/** The edges of promises 1 to 8, and of their words ahead of the promises. */
final class BookEdges {
    private static final int BAD = -1, STATE = -2, FULL = -3, NONE = -9;
    private static final int MIN = Integer.MIN_VALUE, MAX = Integer.MAX_VALUE;

    private BookEdges() {
    }

    static void all(Edges edges) {
        edges.edge(0, "An object is used for at most 512 calls after it has been made; what later calls answer is free.",
                BookEdges::manyCalls);
        edges.edge(0, "IN ORDER: SENTENCES by their CODES, as texts go.", BookEdges::inOrder);
        edges.edge(0, "FIRST of a LETTER: the SENTENCE first IN ORDER whose CODE begins with it, or comes behind; NONE.",
                BookEdges::firstOrBehind);
        edges.edge(0, "(Read anew: as told, THE MESSAGE is empty, nothing can be UNDONE, nothing SEEN, IMAGES are gone.)",
                BookEdges::readAnew);
        edges.edge(1, "As told;", BookEdges::newAsTold);
        edges.edge(1, "THE BOOK is empty.", BookEdges::newBookEmpty);
        edges.edge(2, "A letter (0 .. 255) comes to THE TEXT: how many it has.", BookEdges::typeAll);
        edges.edge(2, "BAD;", BookEdges::typeBad);
        edges.edge(2, "FULL: 120.", BookEdges::typeFull);
        edges.edge(3, "THE TEXT is empty:", BookEdges::clearEmpties);
        edges.edge(3, "how many letters it had.", BookEdges::clearHad);
        edges.edge(4, "THE TEXT tells all anew,", BookEdges::bookAnew);
        edges.edge(4, "and is empty then:", BookEdges::bookEmptiesText);
        edges.edge(4, "how many ITEMS.", BookEdges::bookItems);
        edges.edge(4, "-10 less FAULT: nothing changes.", BookEdges::bookFault);
        edges.edge(5, "Of a FLAG (0 a .. 7 h): 0 COLOUR, 1 SIZE.", BookEdges::flags);
        edges.edge(5, "BAD.", BookEdges::flagBad);
        edges.edge(6, "Of a SENTENCE: how many LETTERS its CODE has (i = -1),", BookEdges::codeLength);
        edges.edge(6, "the i-th (0 on; 0 a ..;", BookEdges::codeLetters);
        edges.edge(6, "NONE: not so many).", BookEdges::codeNone);
        edges.edge(6, "BAD.", BookEdges::codeBad);
        edges.edge(7, "The k-th SENTENCE IN ORDER (0 on);", BookEdges::sortedAll);
        edges.edge(7, "NONE.", BookEdges::sortedNone);
        edges.edge(7, "BAD.", BookEdges::sortedBad);
        edges.edge(8, "FIRST of a LETTER (0 a ..);", BookEdges::firstAll);
        edges.edge(8, "NONE.", BookEdges::firstNone);
        edges.edge(8, "BAD.", BookEdges::firstBad);
    }

    private static void manyCalls() {
        FlagHoists x = Check.booked("ka;kb;");
        // clear, six letters, book: 8 calls so far
        for (int call = 8; call < 510; call++) {
            boolean put = call % 2 == 0;
            Check.due("call " + (call + 1), put ? 1 : call / 2 % 2, put ? x.puts(0, call / 2 % 2) : x.takes(0));
        }
        Check.due("call 511", 9, x.undo());
        Check.due("call 512", 1, x.count(1));
    }

    private static void inOrder() {
        // the shorter one ahead of those that go on from it; a letter counts more than the length
        order("kb;kaaaa;", 1, 0);
        order("kab;ka;", 1, 0);
        order("kaaaa;kaaa;kaa;ka;", 3, 2, 1, 0);
        order("kabcd;kabce;kabca;", 2, 0, 1);
        order("kh;kgh;kghhh;kgg;", 3, 1, 2, 0);
        order("kah;kb;kaha;", 0, 2, 1);
        order("ka;kb;kc;kd;ke;kf;kg;kh;kaa;kha;", 0, 8, 1, 2, 3, 4, 5, 6, 7, 9);
    }

    private static void order(String text, int... sentences) {
        FlagHoists x = Check.booked(text);
        for (int k = 0; k < sentences.length; k++) {
            Check.due("sorted(" + k + ") of " + text, sentences[k], x.sorted(k));
        }
        Check.due("sorted behind the last of " + text, NONE, x.sorted(sentences.length));
    }

    private static void firstOrBehind() {
        FlagHoists x = Check.booked("kdb;kda;kdaa;kbhhh;");
        int[] due = {3, 3, 1, 1, NONE, NONE, NONE, NONE};
        for (int letter = 0; letter < 8; letter++) {
            Check.due("first(" + letter + ")", due[letter], x.first(letter));
        }
        FlagHoists last = Check.booked("kh;");
        FlagHoists first = Check.booked("kahhh;");
        for (int letter = 0; letter < 8; letter++) {
            Check.due("h: first(" + letter + ")", 0, last.first(letter));
            Check.due("ahhh: first(" + letter + ")", letter == 0 ? 0 : NONE, first.first(letter));
        }
    }

    private static FlagHoists busy() {
        FlagHoists x = Check.with("p3;fa1 2;fb1 2;ka;kb;kc;", 0, 1, 2);
        x.sends();
        x.answers(1);
        x.keep(0);
        x.sends();
        x.answers(0);
        x.keep(1);
        x.sees(0, 3);
        x.sees(1, 1);
        return x;
    }

    private static void readAnew() {
        for (String text : new String[] {"", "p3;fa1 2;fb1 2;ka;kb;kc;", "kh;"}) {
            FlagHoists x = busy();
            Check.isTrue("read", Check.read(x, text) >= 0);
            Check.due("THE MESSAGE is empty", 0, x.count(1));
            Check.due("no place", BAD, x.message(0));
            Check.due("nothing is up", NONE, x.count(5));
            Check.due("nothing was understood", 0, x.count(6));
            Check.due("nothing can be UNDONE", 0, x.count(9));
            Check.due("undo", STATE, x.undo());
            Check.due("nothing SEEN", 0, x.count(7));
            Check.due("forget", 0, x.forget());
            Check.due("IMAGE 0 is gone", STATE, x.back(0));
            Check.due("IMAGE 1 is gone", STATE, x.back(1));
        }
        // places() is gone with it too
        FlagHoists x = busy();
        x.places(7);
        Check.read(x, "ka;");
        Check.due("PLACES as told: 5 at first", 5, x.count(2));
        Check.due("six come to SEEN again", 1, x.sees(0, 0));
    }

    private static void newAsTold() {
        Check.counts("new", new FlagHoists(), 0, 0, 5, 0, 9, NONE, 0, 0, 0, 0);
        FlagHoists x = new FlagHoists();
        for (int f = 0; f < 8; f++) {
            Check.due("COLOUR of " + f, f, x.flag(f, 0));
            Check.due("SIZE of " + f, 5, x.flag(f, 1));
        }
        Check.due("no HOIST is up", STATE, x.answers(1));
        Check.due("none can be SENT", STATE, x.sends());
        Check.due("none may be UNDONE", STATE, x.undo());
        Check.due("IMAGE 0", STATE, x.back(0));
        Check.due("IMAGE 1", STATE, x.back(1));
        Check.due("nothing SEEN", 0, x.forget());
        Check.due("no letter", 0, x.clear());
        Check.due("no place", BAD, x.takes(0));
        Check.due("UNSEEN", 0, x.unseen());
        // two objects have nothing in common
        FlagHoists other = new FlagHoists();
        Check.read(x, "p3;fa1 1;ka;");
        Check.put(x, 0);
        Check.counts("another one", other, 0, 0, 5, 0, 9, NONE, 0, 0, 0, 0);
        Check.due("its a", 0, other.flag(0, 0));
    }

    private static void newBookEmpty() {
        FlagHoists x = new FlagHoists();
        Check.due("count(0)", 0, x.count(0));
        Check.due("code(0, -1)", BAD, x.code(0, -1));
        Check.due("sorted(0)", NONE, x.sorted(0));
        for (int letter = 0; letter < 8; letter++) {
            Check.due("first(" + letter + ")", NONE, x.first(letter));
        }
        Check.due("puts(0, 0)", BAD, x.puts(0, 0));
        Check.due("told(0, 0, 1)", BAD, x.told(0, 0, 1));
    }

    private static void typeAll() {
        FlagHoists x = new FlagHoists();
        for (int letter = 0; letter <= 255; letter++) {
            if (letter % 100 == 0) {
                x = new FlagHoists();
            }
            Check.due("type(" + letter + ")", letter % 100 + 1, x.type(letter));
        }
    }

    private static void typeBad() {
        FlagHoists x = new FlagHoists();
        x.type('k');
        for (int letter : new int[] {-1, 256, -2, 257, 256 + 'a', -256 + 'a', 65536 + 'a', MIN, MIN + 'a', MAX}) {
            Check.due("type(" + letter + ")", BAD, x.type(letter));
            Check.due("as many letters", 1, x.count(8));
        }
        x.type('a');
        x.type(';');
        Check.due("the text is ka;", 1, x.book());
    }

    private static void typeFull() {
        FlagHoists x = new FlagHoists();
        Check.type(x, "ka;" + " ".repeat(116));
        Check.due("the 120th", 120, x.type(' '));
        Check.due("the 121st", FULL, x.type('q'));
        Check.due("again", FULL, x.type(0));
        Check.due("BAD is the first", BAD, x.type(256));
        Check.due("BAD is the first", BAD, x.type(-1));
        Check.due("120", 120, x.count(8));
        Check.due("nothing came to it", 1, x.book());
        Check.due("room again behind book", 1, x.type(32));
        for (int i = 2; i <= 120; i++) {
            x.type(32);
        }
        Check.due("full again", FULL, x.type(32));
        Check.due("clear", 120, x.clear());
        Check.due("room again behind clear", 1, x.type(32));
    }

    private static void clearEmpties() {
        FlagHoists x = busy();
        Check.type(x, "p6;kq");
        x.clear();
        Check.due("count(8)", 0, x.count(8));
        Check.due("the next is the first", 1, x.type('k'));
        Check.due("nothing else changed", 3, x.count(1));
        Check.due("nothing else changed", 1, x.count(5));
        Check.due("nothing else changed", 2, x.count(7));
        x.clear();
        Check.due("an empty text", 0, x.book());
    }

    private static void clearHad() {
        FlagHoists x = new FlagHoists();
        Check.due("none", 0, x.clear());
        x.type(0);
        Check.due("one", 1, x.clear());
        Check.due("none any more", 0, x.clear());
        Check.type(x, "q".repeat(120));
        Check.due("all", 120, x.clear());
        Check.type(x, "ka;");
        x.book();
        Check.due("none behind book", 0, x.clear());
        Check.type(x, "kq;");
        x.book();
        Check.due("all behind a FAULT", 3, x.clear());
    }

    private static void bookAnew() {
        FlagHoists x = Check.booked("p7;fa7 9;fh0 1;kab;kc;");
        Check.due("book", 1, Check.read(x, "kd;"));
        Check.due("PLACES as at first", 5, x.count(2));
        Check.due("a's COLOUR as at first", 0, x.flag(0, 0));
        Check.due("a's SIZE as at first", 5, x.flag(0, 1));
        Check.due("h's COLOUR as at first", 7, x.flag(7, 0));
        Check.due("h's SIZE as at first", 5, x.flag(7, 1));
        Check.due("one SENTENCE", 1, x.count(0));
        Check.due("its CODE has one LETTER", 1, x.code(0, -1));
        Check.due("d", 3, x.code(0, 0));
        Check.due("no second one", BAD, x.code(1, -1));
        Check.due("an empty text", 0, x.book());
        Check.due("no SENTENCE", 0, x.count(0));
    }

    private static void bookEmptiesText() {
        FlagHoists x = new FlagHoists();
        Check.type(x, "ka;");
        x.book();
        Check.due("count(8)", 0, x.count(8));
        Check.due("the next letter is the first", 1, x.type('k'));
        Check.type(x, "b;");
        Check.due("book", 1, x.book());
        Check.due("one SENTENCE", 1, x.count(0));
        Check.type(x, " ".repeat(120));
        Check.due("120 blanks", 0, x.book());
        Check.due("count(8)", 0, x.count(8));
    }

    private static void bookItems() {
        Check.text("", 0);
        Check.text("    ", 0);
        Check.text("p5;", 1);
        Check.text("p5;fa1 1;ka;", 3);
        Check.text("fa1 1;".repeat(20), 20);
        Check.text("ka;kb;kc;kd;ke;kf;kg;kh;kaa;kab;p3;fa1 1;fa1 1;", 13);
    }

    private static void bookFault() {
        for (String text : new String[] {";", "p6;fa7 7;kh;kg;q", "p6;fa7 7;kh;kg;kh;", "p6;fa7 7;kh", "k"}) {
            FlagHoists x = busy();
            Check.type(x, text);
            int answer = x.book();
            Check.isTrue("a FAULT answers " + answer, answer <= -10 && answer >= -10 - text.length());
            Check.counts("behind '" + text + "'", x, 3, 3, 3, 2, 2, 1, 1, 2, text.length(), 7);
            Check.due("a's COLOUR", 1, x.flag(0, 0));
            Check.due("h's SIZE", 5, x.flag(7, 1));
            Check.due("the first CODE", 0, x.code(0, 0));
            Check.due("the same again", answer, x.book());
            Check.due("it was SENT twice", 2, x.answers(1));
            Check.due("IMAGE 0", 3, x.back(0));
            Check.due("IMAGE 1", 3, x.back(1));
        }
        Check.fault("q", 0);
        Check.fault(" ".repeat(119) + "q", 119);
        Check.fault(" ".repeat(119) + "k", 120);
    }

    private static void flags() {
        FlagHoists x = Check.booked("fa7 1;fb6 2;fc5 3;fd4 4;fe3 6;ff2 7;fg1 8;fh0 9;");
        int[] sizes = {1, 2, 3, 4, 6, 7, 8, 9};
        for (int f = 0; f < 8; f++) {
            Check.due("flag(" + f + ", 0)", 7 - f, x.flag(f, 0));
            Check.due("flag(" + f + ", 1)", sizes[f], x.flag(f, 1));
        }
    }

    private static void flagBad() {
        FlagHoists x = new FlagHoists();
        for (int f : new int[] {-1, 8, 9, 97, MIN, MAX}) {
            Check.due("flag(" + f + ", 0)", BAD, x.flag(f, 0));
            Check.due("flag(" + f + ", 1)", BAD, x.flag(f, 1));
        }
        for (int what : new int[] {-1, 2, 3, MIN, MAX}) {
            Check.due("flag(0, " + what + ")", BAD, x.flag(0, what));
            Check.due("flag(7, " + what + ")", BAD, x.flag(7, what));
        }
    }

    private static void codeLength() {
        FlagHoists x = Check.booked("kabcd;ka;khh;kaba;");
        int[] due = {4, 1, 2, 3};
        for (int s = 0; s < due.length; s++) {
            Check.due("code(" + s + ", -1)", due[s], x.code(s, -1));
        }
    }

    private static void codeLetters() {
        FlagHoists x = Check.booked("kabcd;kefgh;");
        for (int i = 0; i < 8; i++) {
            Check.due("code(" + i / 4 + ", " + i % 4 + ")", i, x.code(i / 4, i % 4));
        }
    }

    private static void codeNone() {
        FlagHoists x = Check.booked("ka;kab;kabc;kabcd;");
        for (int s = 0; s < 4; s++) {
            Check.due("the last of " + s, s, x.code(s, s));
            Check.due("behind the last of " + s, NONE, x.code(s, s + 1));
            for (int i : new int[] {4, 5, 8, 31, 32, MAX}) {
                Check.due("code(" + s + ", " + i + ")", NONE, x.code(s, i));
            }
        }
    }

    private static void codeBad() {
        FlagHoists x = Check.booked("ka;kb;");
        for (int s : new int[] {-1, 2, 3, 9, 10, 11, MIN, MAX}) {
            for (int i : new int[] {-2, -1, 0, 4, MAX}) {
                Check.due("code(" + s + ", " + i + ")", BAD, x.code(s, i));
            }
        }
        for (int i : new int[] {-2, -3, -9, MIN}) {
            Check.due("code(1, " + i + ")", BAD, x.code(1, i));
        }
        FlagHoists ten = Check.booked("ka;kb;kc;kd;ke;kf;kg;kh;kaa;kab;");
        Check.due("the tenth", 2, ten.code(9, -1));
        Check.due("an eleventh", BAD, ten.code(10, -1));
    }

    private static void sortedAll() {
        order("kd;kc;kb;ka;", 3, 2, 1, 0);
        order("kh;kg;kf;ke;kd;kc;kb;ka;kaaaa;khhhh;", 7, 8, 6, 5, 4, 3, 2, 1, 0, 9);
        order("ka;", 0);
        order("");
    }

    private static void sortedNone() {
        FlagHoists x = Check.booked("kb;ka;");
        for (int k : new int[] {2, 3, 9, 10, 11, MAX}) {
            Check.due("sorted(" + k + ")", NONE, x.sorted(k));
            Check.due("of an empty book: sorted(" + k + ")", NONE, new FlagHoists().sorted(k));
        }
        FlagHoists ten = Check.booked("ka;kb;kc;kd;ke;kf;kg;kh;kaa;kab;");
        Check.due("sorted(9) of ten", 7, ten.sorted(9));
        Check.due("sorted(10) of ten", NONE, ten.sorted(10));
    }

    private static void sortedBad() {
        FlagHoists x = Check.booked("kb;ka;");
        for (int k : new int[] {-1, -2, -9, MIN}) {
            Check.due("sorted(" + k + ")", BAD, x.sorted(k));
            Check.due("of an empty book: sorted(" + k + ")", BAD, new FlagHoists().sorted(k));
        }
    }

    private static void firstAll() {
        FlagHoists x = Check.booked("ka;kb;kc;kd;ke;kf;kg;kh;");
        for (int letter = 0; letter < 8; letter++) {
            Check.due("first(" + letter + ")", letter, x.first(letter));
        }
    }

    private static void firstNone() {
        FlagHoists x = Check.booked("kghhh;kahhh;");
        Check.due("first(6)", 0, x.first(6));
        Check.due("first(7)", NONE, x.first(7));
        Check.due("of an empty book", NONE, new FlagHoists().first(0));
    }

    private static void firstBad() {
        FlagHoists x = Check.booked("ka;kh;");
        for (int letter : new int[] {-1, 8, 9, 97, MIN, MAX}) {
            Check.due("first(" + letter + ")", BAD, x.first(letter));
            Check.due("of an empty book: first(" + letter + ")", BAD, new FlagHoists().first(letter));
        }
    }
}
