import java.util.ArrayList;
import java.util.List;

/** The edges of what was seen, of images and of count (promises 20 to 25), and of refusals. */
final class ImageEdges {
    private static final int BAD = -1, STATE = -2, FULL = -3, NONE = -9;
    private static final int MIN = Integer.MIN_VALUE, MAX = Integer.MAX_VALUE;

    private ImageEdges() {
    }

    static void all(Edges edges) {
        edges.edge(0, "SEEN (6 at most):", ImageEdges::sixSeen);
        edges.edge(0, "one unknown SENTENCE of THE MESSAGE (by place) being gone, HOIST k would have n things", ImageEdges::wouldHave);
        edges.edge(0, "(0: there is none).", ImageEdges::noSuchHoist);
        edges.edge(0, "UNSEEN: places (bits) by which all that was SEEN is so (by which it can be MADE).", ImageEdges::bits);
        edges.edge(0, "IMAGES 0, 1 keep THE MESSAGE, PLACES, what was SENT;", ImageEdges::imagesKeep);
        edges.edge(0, "nothing else (nothing can be UNDONE behind back()).", ImageEdges::imagesKeepNothingElse);
        edges.edge(0, "Refused, and nothing changes, the first of these:", ImageEdges::nothingChanges);
        edges.edge(0, "BAD (a number is not as told, or there is no such thing), STATE (as told), FULL.", ImageEdges::firstOfThese);
        edges.edge(20, "SEEN: how much there is.", ImageEdges::seesCounts);
        edges.edge(20, "BAD (k 0 .. 7, n 0 .. 7);", ImageEdges::seesBad);
        edges.edge(20, "FULL: 6.", ImageEdges::seesFull);
        edges.edge(21, "Nothing is SEEN: how much was.", ImageEdges::forget);
        edges.edge(22, "UNSEEN (bits).", ImageEdges::unseen);
        edges.edge(23, "An IMAGE is kept: SENTENCES of THE MESSAGE.", ImageEdges::keep);
        edges.edge(23, "BAD.", ImageEdges::keepBad);
        edges.edge(24, "All of that becomes as an IMAGE has it: SENTENCES of THE MESSAGE.", ImageEdges::back);
        edges.edge(24, "BAD;", ImageEdges::backBad);
        edges.edge(24, "STATE: none was kept.", ImageEdges::backState);
        countEdges(edges);
    }

    private static void countEdges(Edges edges) {
        edges.edge(25, "0 SENTENCES of THE BOOK,", ImageEdges::countBook);
        edges.edge(25, "1 of THE MESSAGE,", ImageEdges::countMessage);
        edges.edge(25, "2 PLACES,", ImageEdges::countPlaces);
        edges.edge(25, "3 HOISTS (NONE: it can not be MADE),", ImageEdges::countHoists);
        edges.edge(25, "4 FARTHEST (NONE likewise),", ImageEdges::countFarthest);
        edges.edge(25, "5 the HOIST that is up (NONE),", ImageEdges::countUp);
        edges.edge(25, "6 how many were understood,", ImageEdges::countUnderstood);
        edges.edge(25, "7 SEEN,", ImageEdges::countSeen);
        edges.edge(25, "8 letters of THE TEXT,", ImageEdges::countLetters);
        edges.edge(25, "9 how many may be UNDONE.", ImageEdges::countUndone);
        edges.edge(25, "BAD.", ImageEdges::countBad);
    }

    private static void sixSeen() {
        FlagHoists x = Check.with("p5;ka;kbc;", 0, 1);
        for (int i = 1; i <= 6; i++) {
            Check.due("sees", i, x.sees(0, 1));
        }
        Check.due("a seventh", FULL, x.sees(0, 2));
        Check.due("bc gone, six times", 2, x.unseen());
        // each of the six counts, the last one too
        for (int other = 0; other < 6; other++) {
            FlagHoists y = Check.with("p5;ka;kbc;", 0, 1);
            for (int i = 0; i < 6; i++) {
                y.sees(0, i == other ? 2 : 1);
            }
            Check.due("the " + other + "th is another one", 0, y.unseen());
        }
    }

    private static void wouldHave() {
        FlagHoists x = Check.with("p5;ka;kbc;kdef;", 0, 1, 2);
        // a gone: bc, def; bc gone: a def; def gone: a bc
        int[][] due = {{2, 3}, {5, 0}, {4, 0}};
        for (int place = 0; place < 3; place++) {
            for (int k = 0; k < 2; k++) {
                x.forget();
                x.sees(k, due[place][k]);
                int bits = 0;
                for (int other = 0; other < 3; other++) {
                    bits |= due[other][k] == due[place][k] ? 1 << other : 0;
                }
                Check.due("HOIST " + k + " of " + due[place][k], bits, x.unseen());
            }
        }
        // SUBSTITUTES and TACKS are things; a message as it is NOW
        FlagHoists alike = Check.with("p7;kab;ka;kc;", 0, 0, 2);
        alike.sees(0, 5);
        Check.due("ab ab, c gone", 4, alike.unseen());
        alike.takes(2);
        Check.due("ab is left", 0, alike.unseen());
        alike.puts(1, 1);
        Check.due("ab a ab, a gone", 2, alike.unseen());
        alike.places(4);
        Check.due("ab, ab: two HOISTS", 0, alike.unseen());
    }

    private static void noSuchHoist() {
        FlagHoists x = Check.with("p3;ka;kb;", 0, 1, 0);
        // two are left, in one HOIST
        x.sees(0, 3);
        for (int k = 1; k <= 4; k++) {
            x.sees(k, 0);
            Check.due("there is no HOIST " + k, 7, x.unseen());
        }
        x.sees(7, 0);
        Check.due("there is no HOIST 7", 7, x.unseen());
        x.forget();
        x.sees(0, 0);
        Check.due("there is a HOIST 0", 0, x.unseen());
        FlagHoists one = Check.with("ka;", 0);
        one.sees(0, 0);
        Check.due("the only SENTENCE being gone there is none", 1, one.unseen());
        one.forget();
        one.sees(0, 1);
        Check.due("so it has no thing", 0, one.unseen());
    }

    private static void bits() {
        Check.due("none in an empty message", 0, Check.booked("ka;").unseen());
        for (int size = 1; size <= 8; size++) {
            FlagHoists x = Check.booked("ka;");
            for (int i = 0; i < size; i++) {
                x.puts(i, 0);
            }
            Check.due("nothing SEEN: each of " + size, (1 << size) - 1, x.unseen());
        }
        for (int place = 0; place < 8; place++) {
            FlagHoists x = Check.booked("p3;ka;kabcd;");
            for (int i = 0; i < 8; i++) {
                x.puts(i, i == place ? 1 : 0);
            }
            Check.due("it can be MADE without " + place + " alone", 1 << place, x.unseen());
            x.sees(3, 1);
            Check.due("the fourth HOIST is of one", 1 << place, x.unseen());
            x.sees(3, 3);
            Check.due("not of three", 0, x.unseen());
        }
        FlagHoists two = Check.with("p3;ka;kabcd;", 1, 1);
        Check.due("it can not be MADE without one of two", 0, two.unseen());
        two.sees(0, 0);
        Check.due("though none is SEEN", 0, two.unseen());
    }

    private static void imagesKeep() {
        FlagHoists x = Check.with("p3;ka;kb;kc;", 2, 1, 0);
        x.sends();
        x.answers(1);
        x.sends();
        x.answers(0);
        x.keep(0);
        x.places(4);
        x.takes(0);
        x.keep(1);
        x.takes(0);
        x.takes(0);
        Check.due("back(0)", 3, x.back(0));
        Check.message("THE MESSAGE", x, 2, 1, 0);
        Check.due("PLACES", 3, x.count(2));
        Check.due("up", 1, x.count(5));
        Check.due("understood", 1, x.count(6));
        Check.due("SENT twice", 2, x.answers(1));
        Check.due("back(1)", 2, x.back(1));
        Check.message("THE MESSAGE", x, 1, 0);
        Check.due("PLACES", 4, x.count(2));
        Check.due("none is up", NONE, x.count(5));
        Check.due("none understood", 0, x.count(6));
    }

    private static void imagesKeepNothingElse() {
        FlagHoists x = Check.with("ka;kb;", 0, 1);
        x.sees(0, 1);
        x.type('k');
        x.keep(0);
        Check.due("keep is nothing to UNDO", 2, x.count(9));
        x.forget();
        x.sees(1, 1);
        x.sees(2, 2);
        x.type('h');
        x.type(';');
        x.takes(0);
        x.back(0);
        Check.due("SEEN as it was ahead of back()", 2, x.count(7));
        Check.due("THE TEXT as it was ahead of back()", 3, x.count(8));
        Check.due("nothing can be UNDONE", 0, x.count(9));
        Check.due("undo", STATE, x.undo());
        Check.message("nor is it", x, 0, 1);
        x.takes(1);
        Check.due("a deed behind back() can be", 0, x.undo());
        Check.message("UNDONE", x, 0, 1);
        Check.due("the book is another one", 1, x.book());
        Check.due("its IMAGES are gone", STATE, x.back(0));
    }

    private static void nothingChanges() {
        List<Call> run = new ArrayList<>(Call.typing("p3;fa1 2;fb1 2;ka;kb;kabcd;"));
        run.add(Call.of("book"));
        for (int i = 0; i < 8; i++) {
            run.add(Call.of("puts", i, i % 2));
        }
        run.add(Call.of("sends"));
        run.add(Call.of("keep", 0));
        for (int i = 0; i < 6; i++) {
            run.add(Call.of("sees", i, i % 3));
        }
        run.addAll(Call.typing("kc;kc;"));
        List<Integer> before = Look.at(run);
        Call[] refused = {Call.of("type", 256), Call.of("book"), Call.of("puts", 8, 0), Call.of("puts", 9, 0),
            Call.of("takes", 8), Call.of("places", 3), Call.of("places", 8), Call.of("sends"), Call.of("answers", 2),
            Call.of("sees", 0, 0), Call.of("sees", 8, 0), Call.of("keep", 2), Call.of("back", 1), Call.of("back", 2)};
        for (Call call : refused) {
            List<Call> longer = new ArrayList<>(run);
            longer.add(call);
            Check.isTrue(call + " is refused", call.on(Call.made(run)) < 0);
            Check.isTrue("nothing changes at " + call, before.equals(Look.at(longer)));
        }
    }

    private static void firstOfThese() {
        FlagHoists x = Check.with("ka;", 0, 0, 0, 0, 0, 0, 0, 0);
        Check.due("puts: BAD ahead of FULL", BAD, x.puts(9, 0));
        Check.due("puts: BAD ahead of FULL", BAD, x.puts(0, 1));
        Check.due("puts: FULL", FULL, x.puts(0, 0));
        Check.type(x, " ".repeat(120));
        Check.due("type: BAD ahead of FULL", BAD, x.type(-1));
        Check.due("type: FULL", FULL, x.type(0));
        for (int i = 0; i < 6; i++) {
            x.sees(0, 0);
        }
        Check.due("sees: BAD ahead of FULL", BAD, x.sees(0, 8));
        Check.due("sees: BAD ahead of FULL", BAD, x.sees(8, 0));
        Check.due("sees: FULL", FULL, x.sees(7, 7));
        Check.due("answers: BAD ahead of STATE", BAD, x.answers(2));
        Check.due("answers: STATE", STATE, x.answers(0));
        Check.due("back: BAD ahead of STATE", BAD, x.back(2));
        Check.due("back: STATE", STATE, x.back(1));
        Check.due("hoist: BAD ahead of NONE", BAD, x.hoist(9, 4));
        Check.due("thing: BAD ahead of NONE", BAD, x.thing(9, -1));
        Check.due("meanings: BAD ahead of NONE", BAD, x.meanings(9, 0));
        Check.due("code: BAD ahead of NONE", BAD, x.code(1, 4));
    }

    private static void seesCounts() {
        FlagHoists x = new FlagHoists();
        Check.due("in an empty message too", 1, x.sees(3, 3));
        Check.due("the same again", 2, x.sees(3, 3));
        Check.due("what can't be with it", 3, x.sees(3, 4));
        x.forget();
        Check.due("behind forget", 1, x.sees(0, 0));
        FlagHoists all = new FlagHoists();
        for (int k = 0; k <= 7; k++) {
            for (int n = 0; n <= 7; n++) {
                all.forget();
                Check.due("sees(" + k + ", " + n + ")", 1, all.sees(k, n));
            }
        }
    }

    private static void seesBad() {
        FlagHoists x = new FlagHoists();
        for (int wrong : new int[] {-1, 8, 9, MIN, MAX}) {
            Check.due("sees(" + wrong + ", 0)", BAD, x.sees(wrong, 0));
            Check.due("sees(" + wrong + ", 7)", BAD, x.sees(wrong, 7));
            Check.due("sees(0, " + wrong + ")", BAD, x.sees(0, wrong));
            Check.due("sees(7, " + wrong + ")", BAD, x.sees(7, wrong));
        }
        Check.due("count(7)", 0, x.count(7));
        Check.due("sees(7, 7)", 1, x.sees(7, 7));
        Check.due("sees(0, 0)", 2, x.sees(0, 0));
    }

    private static void seesFull() {
        FlagHoists x = Check.with("ka;", 0);
        for (int i = 0; i < 6; i++) {
            x.sees(0, 0);
        }
        Check.due("a seventh", FULL, x.sees(0, 1));
        Check.due("six", 6, x.count(7));
        Check.due("it did not come to it", 1, x.unseen());
        Check.due("forget", 6, x.forget());
        Check.due("there is room again", 1, x.sees(0, 1));
    }

    private static void forget() {
        FlagHoists x = Check.with("ka;", 0);
        Check.due("nothing was", 0, x.forget());
        x.sees(0, 1);
        Check.due("unseen", 0, x.unseen());
        Check.due("one was", 1, x.forget());
        Check.due("count(7)", 0, x.count(7));
        Check.due("unseen", 1, x.unseen());
        Check.due("nothing any more", 0, x.forget());
        for (int i = 0; i < 6; i++) {
            x.sees(7, 7);
        }
        Check.due("six were", 6, x.forget());
        Check.due("nothing else changed", 1, x.count(1));
    }

    private static void unseen() {
        FlagHoists x = Check.with("p5;ka;kbc;kdef;", 0, 1, 2, 0, 1, 2, 0, 1);
        Check.due("nothing SEEN", 255, x.unseen());
        x.sees(0, 2);
        Check.due("bc first: the first a is gone", 1, x.unseen());
        x.sees(1, 7);
        Check.due("more than PLACES", 0, x.unseen());
        x.forget();
        x.sees(0, 5);
        Check.due("a def first: the first bc is gone", 2, x.unseen());
        x.takes(1);
        Check.message("as it is NOW", x, 0, 2, 0, 1, 2, 0, 1);
        Check.due("a def as long as neither is gone", 4 + 8 + 16 + 32 + 64 + 1, x.unseen());
    }

    private static void keep() {
        FlagHoists x = Check.booked("ka;kb;");
        Check.due("an empty one", 0, x.keep(0));
        for (int size = 1; size <= 8; size++) {
            x.puts(0, size % 2);
            Check.due("keep(1)", size, x.keep(1));
        }
        Check.due("the first is kept still", 0, x.back(0));
        Check.due("the last of the others", 8, x.back(1));
        x.takes(0);
        Check.due("over another one", 7, x.keep(0));
        Check.due("it alone", 8, x.back(1));
        Check.due("it", 7, x.back(0));
        Check.due("before a book", 0, new FlagHoists().keep(1));
    }

    private static void keepBad() {
        FlagHoists x = Check.with("ka;", 0);
        for (int image : new int[] {-1, 2, 3, MIN, MAX}) {
            Check.due("keep(" + image + ")", BAD, x.keep(image));
        }
        Check.due("none was kept", STATE, x.back(0));
        Check.due("none was kept", STATE, x.back(1));
    }

    private static void back() {
        FlagHoists x = Check.with("ka;kb;", 0, 1);
        x.keep(1);
        x.takes(0);
        x.takes(0);
        Check.due("back(1)", 2, x.back(1));
        Check.message("back", x, 0, 1);
        x.puts(1, 1);
        x.places(7);
        Check.due("as often as it is asked for", 2, x.back(1));
        Check.message("back", x, 0, 1);
        Check.due("PLACES", 5, x.count(2));
        FlagHoists empty = Check.booked("ka;");
        empty.keep(0);
        Check.put(empty, 0, 0);
        empty.sends();
        Check.due("to an empty one", 0, empty.back(0));
        Check.due("none is up", NONE, empty.count(5));
        FlagHoists full = Check.with("ka;kb;", 0, 1, 0, 1, 0, 1, 0, 1);
        full.keep(0);
        full.takes(0);
        Check.due("to a full one", 8, full.back(0));
        Check.message("full", full, 0, 1, 0, 1, 0, 1, 0, 1);
    }

    private static void backBad() {
        FlagHoists x = Check.with("ka;", 0);
        x.keep(0);
        x.keep(1);
        x.takes(0);
        for (int image : new int[] {-1, 2, 3, MIN, MAX}) {
            Check.due("back(" + image + ")", BAD, x.back(image));
        }
        Check.message("nothing changed", x);
        Check.due("2 may be UNDONE", 2, x.count(9));
    }

    private static void backState() {
        FlagHoists x = Check.with("ka;", 0);
        Check.due("back(0)", STATE, x.back(0));
        Check.due("back(1)", STATE, x.back(1));
        x.keep(0);
        Check.due("the other one was kept", STATE, x.back(1));
        Check.due("nothing changed", 1, x.count(9));
        FlagHoists y = Check.with("ka;", 0);
        y.keep(1);
        Check.due("the other one was kept", STATE, y.back(0));
        Check.due("it was kept", 1, y.back(1));
    }

    private static void countBook() {
        StringBuilder text = new StringBuilder();
        for (int s = 0; s <= 10; s++) {
            Check.due("SENTENCES", s, Check.booked(text.toString()).count(0));
            text.append('k').append((char) ('a' + s % 8)).append(s < 8 ? "" : "a").append(';');
        }
    }

    private static void countMessage() {
        FlagHoists x = Check.booked("ka;kb;");
        for (int size = 1; size <= 8; size++) {
            x.puts(0, 1);
            Check.due("put", size, x.count(1));
        }
        x.puts(0, 0);
        Check.due("refused", 8, x.count(1));
        for (int size = 7; size >= 0; size--) {
            x.takes(0);
            Check.due("taken", size, x.count(1));
        }
        x.undo();
        Check.due("undone", 1, x.count(1));
    }

    private static void countPlaces() {
        FlagHoists x = Check.booked("p3;");
        for (int n = 4; n <= 7; n++) {
            x.places(n);
            Check.due("PLACES", n, x.count(2));
        }
        x.places(8);
        Check.due("refused", 7, x.count(2));
        x.undo();
        Check.due("undone", 6, x.count(2));
    }

    private static void countHoists() {
        FlagHoists x = Check.booked("p3;kabc;kabcd;");
        for (int size = 0; size <= 8; size++) {
            Check.due("HOISTS", size, x.count(3));
            x.puts(0, 0);
        }
        x.takes(0);
        x.puts(7, 1);
        Check.due("it can not be MADE", NONE, x.count(3));
        x.places(4);
        Check.due("it can be MADE", 8, x.count(3));
    }

    private static void countFarthest() {
        FlagHoists x = Check.booked("p3;fa1 1;fb1 1;ka;kb;kcdef;kg;");
        Check.due("an empty message", 9, x.count(4));
        Check.put(x, 3);
        Check.due("g", 9, x.count(4));
        Check.put(x, 0);
        Check.due("a", 1, x.count(4));
        Check.put(x, 2);
        Check.due("it can not be MADE", NONE, x.count(4));
        x.places(4);
        Check.due("it can be MADE", 1, x.count(4));
    }

    private static void countUp() {
        FlagHoists x = Check.with("p3;kabc;", 0, 0, 0, 0, 0, 0, 0, 0);
        for (int k = 0; k < 8; k++) {
            Check.due("none", NONE, x.count(5));
            x.sends();
            Check.due("up", k, x.count(5));
            x.answers(0);
            Check.due("up again", k, x.count(5));
            x.answers(1);
        }
        Check.due("none", NONE, x.count(5));
    }

    private static void countUnderstood() {
        FlagHoists x = Check.with("p3;kabc;", 0, 0, 0, 0, 0, 0, 0, 0);
        for (int k = 0; k < 8; k++) {
            x.sends();
            x.answers(0);
            Check.due("understood", k, x.count(6));
            x.answers(1);
            Check.due("understood", k + 1, x.count(6));
        }
        x.undo();
        Check.due("undone", 7, x.count(6));
        x.takes(0);
        Check.due("nothing was SENT", 0, x.count(6));
    }

    private static void countSeen() {
        FlagHoists x = new FlagHoists();
        for (int i = 1; i <= 6; i++) {
            x.sees(0, 0);
            Check.due("SEEN", i, x.count(7));
        }
        x.sees(0, 0);
        Check.due("refused", 6, x.count(7));
        x.forget();
        Check.due("forgotten", 0, x.count(7));
    }

    private static void countLetters() {
        FlagHoists x = new FlagHoists();
        for (int i = 1; i <= 120; i++) {
            x.type(' ');
            Check.due("letters", i, x.count(8));
        }
        x.type(' ');
        Check.due("refused", 120, x.count(8));
        x.book();
        Check.due("read", 0, x.count(8));
    }

    private static void countUndone() {
        FlagHoists x = new FlagHoists();
        for (int i = 1; i <= 12; i++) {
            x.places(i % 2 == 0 ? 3 : 4);
            Check.due("UNDONE", Math.min(i, 10), x.count(9));
        }
        for (int left = 9; left >= 0; left--) {
            x.undo();
            Check.due("UNDONE", left, x.count(9));
        }
        x.undo();
        Check.due("refused", 0, x.count(9));
    }

    private static void countBad() {
        FlagHoists x = Check.with("ka;", 0);
        for (int what : new int[] {-1, 10, 11, -10, MIN, MAX}) {
            Check.due("count(" + what + ")", BAD, x.count(what));
        }
    }
}
