/** The edges of what is told from afar: promises 18 and 19, and their words ahead of the promises. */
final class AfarEdges {
    private static final int BAD = -1, NONE = -9;
    private static final int MIN = Integer.MIN_VALUE, MAX = Integer.MAX_VALUE;

    private AfarEdges() {
    }

    static void all(Edges edges) {
        edges.edge(0, "(As things are NOW; nothing is changed.)", AfarEdges::asThingsAreNow);
        edges.edge(0, "CLEAR at a DISTANCE (1 .. 9): a FLAG of SIZE of it or more;", AfarEdges::clear);
        edges.edge(0, "another one is told by its COLOUR alone: it may be each FLAG of that COLOUR that is not CLEAR, too.",
                AfarEdges::byColour);
        edges.edge(0, "TOLD: a CODE may be another one at a DISTANCE, if they have as many LETTERS,", AfarEdges::asManyLetters);
        edges.edge(0, "and each may be the other's", AfarEdges::eachLetter);
        edges.edge(0, "(by the FLAGS of both CODES alone, whatever shows them in a HOIST).", AfarEdges::notBySubstitutes);
        edges.edge(0, "MEANINGS of a HOIST at a DISTANCE: rows of SENTENCES of THE BOOK, one for each of its CODES, "
                + "that each CODE may be: how many.", AfarEdges::meaningsAreRows);
        edges.edge(0, "FARTHEST: the greatest DISTANCE (1 .. 9) at which each HOIST of THE MESSAGE (MADE) has one MEANING;",
                AfarEdges::farthest);
        edges.edge(0, "0 (none).", AfarEdges::farthestNearest);
        edges.edge(18, "Whether a SENTENCE may be another one at a DISTANCE (1, 0).", AfarEdges::told);
        edges.edge(18, "BAD.", AfarEdges::toldBad);
        edges.edge(19, "MEANINGS;", AfarEdges::meanings);
        edges.edge(19, "NONE: there is no such HOIST.", AfarEdges::meaningsNone);
        edges.edge(19, "BAD: k below 0, a DISTANCE.", AfarEdges::meaningsBad);
    }

    private static void asThingsAreNow() {
        FlagHoists x = Check.with("p3;fa1 3;fb1 3;ka;kb;kc;", 0, 1, 2);
        x.sends();
        Check.due("two a or b", 4, x.meanings(0, 4));
        Check.due("c", 1, x.meanings(1, 4));
        Check.due("FARTHEST", 3, x.count(4));
        Check.due("nothing is changed: up", 0, x.count(5));
        Check.due("nothing is changed: UNDONE", 4, x.count(9));
        Check.message("nothing is changed", x, 0, 1, 2);
        x.takes(0);
        Check.due("b and c now", 2, x.meanings(0, 4));
        x.takes(0);
        Check.due("c now", 9, x.count(4));
        x.places(7);
        x.puts(0, 1);
        x.puts(0, 0);
        Check.due("all three now", 4, x.meanings(0, 4));
        Check.due("no second HOIST now", NONE, x.meanings(1, 4));
        Check.read(x, "p3;fa1 5;fb1 3;ka;kb;kc;");
        Check.put(x, 0);
        Check.due("a's SIZE now", 5, x.count(4));
    }

    private static void both(FlagHoists x, int s, int other, int distance, int want) {
        Check.due("told(" + s + ", " + other + ", " + distance + ")", want, x.told(s, other, distance));
        Check.due("told(" + other + ", " + s + ", " + distance + ")", want, x.told(other, s, distance));
    }

    private static void clear() {
        for (int size = 1; size <= 9; size++) {
            FlagHoists x = Check.booked("fa7 " + size + ";fh7 " + size + ";ka;kh;");
            for (int distance = 1; distance <= 9; distance++) {
                both(x, 0, 1, distance, distance <= size ? 0 : 1);
            }
        }
        // one of them is CLEAR, the other is not
        FlagHoists x = Check.booked("fa1 1;fb1 9;ka;kb;");
        for (int distance = 1; distance <= 9; distance++) {
            both(x, 0, 1, distance, 0);
        }
    }

    private static void byColour() {
        // a and b of COLOUR 7, as h is at first; c of its own
        FlagHoists x = Check.booked("fa7 2;fb7 4;ka;kb;kh;kc;");
        both(x, 0, 1, 4, 0);
        both(x, 0, 1, 5, 1);
        both(x, 0, 2, 5, 0);
        both(x, 0, 2, 6, 1);
        both(x, 1, 2, 5, 0);
        both(x, 1, 2, 6, 1);
        for (int s = 0; s < 3; s++) {
            both(x, s, 3, 9, 0);
        }
        // COLOUR 0 is one as others are
        FlagHoists nought = Check.booked("fh0 5;ka;kh;kb;");
        both(nought, 0, 1, 5, 0);
        both(nought, 0, 1, 6, 1);
        both(nought, 0, 2, 9, 0);
    }

    private static void asManyLetters() {
        FlagHoists x = Check.booked("fa1 1;fb1 1;ka;kbb;kaaa;kbbbb;kb;kbaba;");
        for (int s = 0; s < 4; s++) {
            for (int other = 0; other < 4; other++) {
                both(x, s, other, 9, s == other ? 1 : 0);
            }
        }
        both(x, 0, 4, 9, 1);
        both(x, 3, 5, 9, 1);
        both(x, 3, 5, 1, 0);
    }

    private static void eachLetter() {
        // abcd, with one LETTER at a time that is another one's
        FlagHoists x = Check.booked("fa1 1;fe1 1;fb2 1;ff2 1;kabab;kebab;kafab;kabeb;kabaf;khbab;kahab;kabhb;kabah;");
        for (int s = 1; s <= 4; s++) {
            both(x, 0, s, 2, 1);
            both(x, 0, s, 1, 0);
        }
        for (int s = 5; s <= 8; s++) {
            both(x, 0, s, 9, 0);
        }
        // the same LETTERS at other places
        FlagHoists turned = Check.booked("fa1 1;fb2 1;kab;kba;");
        both(turned, 0, 1, 9, 0);
    }

    private static void notBySubstitutes() {
        // aa is shown by a and a SUBSTITUTE, ab by two FLAGS: they are told by a and b alone
        FlagHoists x = Check.with("fa1 3;fb1 3;kaa;kab;", 0);
        Check.things("aa", x, 0, 0, 11);
        both(x, 0, 1, 3, 0);
        both(x, 0, 1, 4, 1);
        Check.due("meanings(0, 4)", 2, x.meanings(0, 4));
        FlagHoists twice = Check.with("p5;fa1 3;fb1 3;ka;kb;", 0, 0);
        Check.things("a a", twice, 0, 0, 20, 11);
        Check.due("meanings(0, 3)", 1, twice.meanings(0, 3));
        Check.due("meanings(0, 4), the second may be b though a SUBSTITUTE shows it", 4, twice.meanings(0, 4));
    }

    private static void meaningsAreRows() {
        FlagHoists x = Check.booked("p7;fa0 1;fb0 1;fc0 1;fd0 1;fe0 1;ff0 1;fg0 1;fh0 1;ka;kb;kc;kd;ke;kf;kg;kh;kaa;kab;");
        Check.put(x, 0, 1, 2, 3, 8, 8);
        Check.cut("four and two", x, 4, 2);
        Check.due("8 8 8 8", 4096, x.meanings(0, 9));
        Check.due("2 2", 4, x.meanings(1, 9));
        Check.due("each is itself alone", 1, x.meanings(0, 1));
        // SENTENCES of THE BOOK, be they in THE MESSAGE or not
        FlagHoists one = Check.with("fa1 1;fb1 1;fc1 1;ka;kb;kc;", 1);
        Check.due("3", 3, one.meanings(0, 2));
        Check.due("a book of one", 1, Check.with("fa1 1;fb1 1;ka;", 0).meanings(0, 9));
    }

    private static void farthest() {
        for (int size = 1; size <= 9; size++) {
            FlagHoists x = Check.with("fa1 " + size + ";fc1 1;ka;kc;kd;", 0);
            Check.due("SIZE " + size, size, x.count(4));
            Check.put(x, 2, 2, 2, 2);
            Check.due("others behind", size, x.count(4));
            x.puts(0, 2);
            Check.due("others ahead", size, x.count(4));
        }
        FlagHoists x = Check.with("p3;fa1 3;fb1 3;fc2 7;fd2 7;kabc;kaba;kccc;kddd;", 2, 0);
        Check.due("the least of two HOISTS", 7, x.count(4));
        Check.due("not MADE", NONE, Check.with("p3;kabcd;", 0).count(4));
        Check.due("an empty message", 9, Check.booked("fa1 1;fb1 1;ka;kb;").count(4));
    }

    private static void farthestNearest() {
        // at DISTANCE 1 every FLAG is CLEAR, so that there is no 0 where all SIZES are 1 or more
        FlagHoists x = Check.booked("p7;fa0 1;fb0 1;fc0 1;fd0 1;fe0 1;ff0 1;fg0 1;fh0 1;ka;kb;kaa;kab;kaaaa;kabab;");
        for (int s = 0; s < 6; s++) {
            x.puts(0, s);
            Check.due("the nearest", 1, x.count(4));
            for (int k = 0; k < x.count(3); k++) {
                Check.due("one MEANING at 1", 1, x.meanings(k, 1));
                Check.isTrue("more at 2", x.meanings(k, 2) > 1);
            }
        }
    }

    private static void told() {
        FlagHoists x = Check.booked("fa1 4;fb1 4;ka;kb;kc;");
        for (int distance = 1; distance <= 9; distance++) {
            both(x, 0, 0, distance, 1);
            both(x, 2, 2, distance, 1);
            both(x, 0, 1, distance, distance <= 4 ? 0 : 1);
            both(x, 0, 2, distance, 0);
        }
    }

    private static void toldBad() {
        FlagHoists x = Check.booked("ka;kb;");
        for (int s : new int[] {-1, 2, 3, 9, 10, MIN, MAX}) {
            Check.due("told(" + s + ", 0, 1)", BAD, x.told(s, 0, 1));
            Check.due("told(0, " + s + ", 1)", BAD, x.told(0, s, 1));
            Check.due("told(" + s + ", " + s + ", 1)", BAD, x.told(s, s, 1));
        }
        for (int distance : new int[] {0, 10, -1, 11, MIN, MAX}) {
            Check.due("told(0, 0, " + distance + ")", BAD, x.told(0, 0, distance));
            Check.due("told(0, 1, " + distance + ")", BAD, x.told(0, 1, distance));
        }
        Check.due("an empty book", BAD, new FlagHoists().told(0, 0, 1));
    }

    private static void meanings() {
        FlagHoists x = Check.with("p3;fa1 3;fb1 3;fc1 6;ka;kb;kc;kd;", 0, 3, 2, 2);
        Check.cut("a d, c c", x, 2, 2);
        int[] first = {1, 1, 1, 2, 2, 2, 3, 3, 3};
        int[] second = {1, 1, 1, 1, 1, 1, 9, 9, 9};
        for (int distance = 1; distance <= 9; distance++) {
            Check.due("meanings(0, " + distance + ")", first[distance - 1], x.meanings(0, distance));
            Check.due("meanings(1, " + distance + ")", second[distance - 1], x.meanings(1, distance));
        }
    }

    private static void meaningsNone() {
        FlagHoists x = Check.with("p3;ka;", 0, 0, 0);
        Check.due("the last HOIST", 1, x.meanings(1, 9));
        for (int k : new int[] {2, 3, 7, 8, 9, MAX}) {
            Check.due("meanings(" + k + ", 1)", NONE, x.meanings(k, 1));
            Check.due("meanings(" + k + ", 9)", NONE, x.meanings(k, 9));
        }
        Check.due("of an empty message", NONE, new FlagHoists().meanings(0, 1));
        Check.due("it can not be MADE", NONE, Check.with("p3;ka;kabcd;", 0, 1).meanings(0, 1));
    }

    private static void meaningsBad() {
        FlagHoists x = Check.with("ka;", 0);
        for (int k : new int[] {-1, -2, -9, MIN}) {
            Check.due("meanings(" + k + ", 1)", BAD, x.meanings(k, 1));
            Check.due("of none: meanings(" + k + ", 1)", BAD, new FlagHoists().meanings(k, 1));
        }
        for (int distance : new int[] {0, 10, -1, 11, MIN, MAX}) {
            Check.due("meanings(0, " + distance + ")", BAD, x.meanings(0, distance));
            Check.due("no such HOIST: meanings(1, " + distance + ")", BAD, x.meanings(1, distance));
            Check.due("of none: meanings(0, " + distance + ")", BAD, new FlagHoists().meanings(0, distance));
        }
    }
}
