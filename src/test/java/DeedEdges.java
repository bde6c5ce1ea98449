/** The edges of what is done: promises 9 to 14, and their words ahead of the promises. */
final class DeedEdges {
    private static final int BAD = -1, STATE = -2, FULL = -3, NONE = -9;
    private static final int MIN = Integer.MIN_VALUE, MAX = Integer.MAX_VALUE;
    private static final int KNOWN = 10;

    private DeedEdges() {
    }

    static void all(Edges edges) {
        edges.edge(0, "PUT: a SENTENCE comes to THE MESSAGE at a place;", DeedEdges::put);
        edges.edge(0, "TAKEN: that at a place goes.", DeedEdges::taken);
        edges.edge(0, "PLACED: PLACES are others.", DeedEdges::placed);
        edges.edge(0, "SENT: the next HOIST (0 first) is up;", DeedEdges::sent);
        edges.edge(0, "ANSWERED: not seen (it is SENT again, at once),", DeedEdges::notSeen);
        edges.edge(0, "or understood (it is down; the next one may be SENT).", DeedEdges::understood);
        edges.edge(0, "PUT, TAKEN, PLACED: nothing is up, nothing was SENT.", DeedEdges::nothingWasSent);
        edges.edge(0, "UNDONE: the latest puts(), takes(), places(), sends(), answers() that was not refused", DeedEdges::undone);
        edges.edge(0, "(10 are known, older ones are lost).", DeedEdges::tenAreKnown);
        edges.edge(9, "PUT at a place (0 .. as many as there are): SENTENCES of THE MESSAGE.", DeedEdges::putsPlaces);
        edges.edge(9, "BAD;", DeedEdges::putsBad);
        edges.edge(9, "FULL: 8.", DeedEdges::putsFull);
        edges.edge(10, "TAKEN: the SENTENCE.", DeedEdges::takesSentence);
        edges.edge(10, "BAD.", DeedEdges::takesBad);
        edges.edge(11, "PLACED: what PLACES were.", DeedEdges::placesWere);
        edges.edge(11, "BAD;", DeedEdges::placesBad);
        edges.edge(11, "STATE: they are that.", DeedEdges::placesState);
        edges.edge(12, "SENT: the number of the HOIST.", DeedEdges::sendsNumber);
        edges.edge(12, "STATE: one is up,", DeedEdges::sendsUp);
        edges.edge(12, "it can not be MADE,", DeedEdges::sendsNotMade);
        edges.edge(12, "all were SENT.", DeedEdges::sendsAll);
        edges.edge(13, "ANSWERED: not seen (0), understood (1): how often that HOIST was SENT.", DeedEdges::answersOften);
        edges.edge(13, "BAD;", DeedEdges::answersBad);
        edges.edge(13, "STATE: none is up.", DeedEdges::answersState);
        edges.edge(14, "UNDONE: how many more may be.", DeedEdges::undoMore);
        edges.edge(14, "STATE: none.", DeedEdges::undoState);
    }

    private static FlagHoists three(int... sentences) {
        return Check.with("p3;ka;kb;kc;", sentences);
    }

    private static void put() {
        for (int place = 0; place <= 7; place++) {
            FlagHoists x = three(0, 0, 0, 0, 0, 0, 0);
            x.puts(place, 2);
            for (int i = 0; i < 8; i++) {
                Check.due("put at " + place + ": message(" + i + ")", i == place ? 2 : 0, x.message(i));
            }
        }
        FlagHoists x = three(0, 1);
        x.puts(1, 2);
        Check.message("those behind go on by one", x, 0, 2, 1);
        x.puts(0, 1);
        Check.message("at the first place", x, 1, 0, 2, 1);
        x.puts(4, 0);
        Check.message("behind the last", x, 1, 0, 2, 1, 0);
    }

    private static void taken() {
        for (int place = 0; place <= 7; place++) {
            FlagHoists x = Check.with("ka;kb;kc;kd;ke;kf;kg;kh;", 0, 1, 2, 3, 4, 5, 6, 7);
            x.takes(place);
            Check.due("seven are left", 7, x.count(1));
            for (int i = 0; i < 7; i++) {
                Check.due("taken at " + place + ": message(" + i + ")", i < place ? i : i + 1, x.message(i));
            }
        }
        FlagHoists x = three(1);
        x.takes(0);
        Check.message("the last one", x);
    }

    private static void placed() {
        FlagHoists x = three(0, 1, 2);
        Check.cut("3", x, 2, 1);
        x.places(7);
        Check.due("PLACES", 7, x.count(2));
        Check.cut("7", x, 3);
        x.places(3);
        Check.cut("3 again", x, 2, 1);
        Check.message("as ahead", x, 0, 1, 2);
    }

    private static void sent() {
        FlagHoists x = three(0, 0, 1, 1, 2);
        Check.due("none is up", NONE, x.count(5));
        for (int k = 0; k < 3; k++) {
            Check.due("sends", k, x.sends());
            Check.due("it is up", k, x.count(5));
            x.answers(1);
        }
        Check.due("the first of an only HOIST", 0, three(0).sends());
    }

    private static void notSeen() {
        FlagHoists x = three(0);
        x.sends();
        for (int times = 2; times <= 40; times++) {
            Check.due("SENT again", times, x.answers(0));
            Check.due("it is up still", 0, x.count(5));
            Check.due("not understood", 0, x.count(6));
        }
        Check.due("it is up, so none may be SENT", STATE, x.sends());
        Check.due("the one that was SENT again is understood", 40, x.answers(1));
    }

    private static void understood() {
        FlagHoists x = three(0, 0, 1);
        x.sends();
        x.answers(1);
        Check.due("it is down", NONE, x.count(5));
        Check.due("one was understood", 1, x.count(6));
        Check.due("the next one may be SENT", 1, x.sends());
        Check.due("and was SENT once", 1, x.answers(1));
        Check.due("both were understood", 2, x.count(6));
        FlagHoists eight = Check.with("p3;kabc;", 0, 0, 0, 0, 0, 0, 0, 0);
        for (int k = 0; k < 8; k++) {
            Check.due("sends", k, eight.sends());
            Check.due("understood", 1, eight.answers(1));
        }
        Check.due("all eight", 8, eight.count(6));
        Check.due("no ninth", STATE, eight.sends());
    }

    private static FlagHoists secondUp() {
        FlagHoists x = three(0, 1, 2);
        x.sends();
        x.answers(1);
        x.sends();
        x.answers(0);
        return x;
    }

    private static FlagHoists allUnderstood() {
        FlagHoists x = secondUp();
        x.answers(1);
        return x;
    }

    private static void nothingSentNow(String when, FlagHoists x) {
        Check.due(when + ": nothing is up", NONE, x.count(5));
        Check.due(when + ": nothing understood", 0, x.count(6));
        Check.due(when + ": no answer", STATE, x.answers(1));
        Check.due(when + ": 0 first", 0, x.sends());
        Check.due(when + ": once", 1, x.answers(1));
    }

    private static void nothingWasSent() {
        FlagHoists put = secondUp();
        put.puts(3, 0);
        nothingSentNow("put at the end", put);
        FlagHoists taken = secondUp();
        taken.takes(2);
        nothingSentNow("taken at the end", taken);
        FlagHoists placed = secondUp();
        placed.places(4);
        nothingSentNow("placed, though it is cut as ahead", placed);
        FlagHoists all = allUnderstood();
        all.puts(0, 0);
        nothingSentNow("put behind all", all);
        FlagHoists refused = secondUp();
        refused.puts(4, 0);
        refused.puts(0, 3);
        refused.takes(3);
        refused.places(3);
        refused.places(8);
        Check.due("refused: up still", 1, refused.count(5));
        Check.due("refused: understood still", 1, refused.count(6));
        Check.due("refused: SENT twice still", 2, refused.answers(1));
    }

    private static void undone() {
        FlagHoists x = three(0, 1, 2);
        x.takes(1);
        x.places(5);
        x.sends();
        x.answers(0);
        x.answers(1);
        Check.due("answers(1)", 7, x.undo());
        Check.due("it is up again", 0, x.count(5));
        Check.due("none understood", 0, x.count(6));
        Check.due("answers(0)", 6, x.undo());
        Check.due("SENT once", 1, x.answers(1));
        x.undo();
        Check.due("sends()", 5, x.undo());
        Check.due("none is up", NONE, x.count(5));
        Check.due("places()", 4, x.undo());
        Check.due("PLACES", 3, x.count(2));
        Check.due("takes()", 3, x.undo());
        Check.message("taken", x, 0, 1, 2);
        Check.due("puts()", 2, x.undo());
        Check.message("put", x, 0, 1);
        refusedIsNotUndone();
        othersAreNotUndone();
    }

    private static void refusedIsNotUndone() {
        FlagHoists x = three(0);
        x.puts(2, 0);
        x.takes(1);
        x.places(3);
        x.places(2);
        x.answers(0);
        x.answers(2);
        x.back(0);
        Check.due("one may be", 1, x.count(9));
        x.sends();
        x.sends();
        Check.due("two may be", 2, x.count(9));
        x.undo();
        Check.due("sends() is undone", NONE, x.count(5));
        x.undo();
        Check.due("puts() is undone", 0, x.count(1));
        FlagHoists full = three(0, 0, 0, 0, 0, 0, 0, 1);
        full.puts(0, 2);
        Check.due("FULL is no deed", 7, full.undo());
        Check.message("the eighth goes", full, 0, 0, 0, 0, 0, 0, 0);
    }

    private static void othersAreNotUndone() {
        FlagHoists x = three(0);
        x.keep(0);
        x.sees(0, 0);
        x.forget();
        x.type('k');
        x.clear();
        x.type('q');
        x.book();
        Check.due("one may be", 1, x.count(9));
        Check.due("puts() is undone", 0, x.undo());
        Check.message("by it", x);
    }

    private static void tenAreKnown() {
        for (int deeds = 1; deeds <= 45; deeds++) {
            FlagHoists x = three();
            for (int i = 0; i < deeds; i++) {
                x.places(3 + (i + 1) % 5);
            }
            int known = Math.min(deeds, KNOWN);
            Check.due(deeds + " deeds: count(9)", known, x.count(9));
            for (int left = known - 1; left >= 0; left--) {
                Check.due(deeds + " deeds: undo", left, x.undo());
                int before = deeds - known + left;
                Check.due(deeds + " deeds: PLACES", 3 + before % 5, x.count(2));
            }
            Check.due(deeds + " deeds: older ones are lost", STATE, x.undo());
        }
        someUndoneThenMore();
    }

    /** The places of ten deeds are used again and again: some deeds are undone, more are done. */
    private static void someUndoneThenMore() {
        for (int undone = 1; undone <= KNOWN; undone++) {
            FlagHoists x = three();
            for (int i = 0; i < 13; i++) {
                x.places(3 + (i + 1) % 5);
            }
            for (int i = 0; i < undone; i++) {
                x.undo();
            }
            Check.put(x, 0, 1, 2);
            int known = Math.min(KNOWN, KNOWN - undone + 3);
            Check.due("undone " + undone + ", three more: count(9)", known, x.count(9));
            Check.due("undo", known - 1, x.undo());
            Check.message("the third put is undone", x, 0, 1);
            x.undo();
            x.undo();
            Check.message("all three are", x);
            Check.due("PLACES", 3 + (13 - undone) % 5, x.count(2));
            for (int left = known - 4; left >= 0; left--) {
                Check.due("undo", left, x.undo());
            }
            Check.due("none is left", STATE, x.undo());
        }
    }

    private static void putsPlaces() {
        FlagHoists x = three();
        for (int size = 0; size < 8; size++) {
            Check.due("behind the last is BAD", BAD, x.puts(size + 1, 0));
            Check.due("at the last", size + 1, x.puts(size, size % 3));
        }
        FlagHoists front = three();
        for (int size = 0; size < 8; size++) {
            Check.due("at the first", size + 1, front.puts(0, size % 3));
        }
        Check.message("the last one put is the first", front, 1, 0, 2, 1, 0, 2, 1, 0);
    }

    private static void putsBad() {
        FlagHoists x = three(0, 1);
        for (int place : new int[] {-1, 3, 4, 8, MIN, MAX}) {
            Check.due("puts(" + place + ", 0)", BAD, x.puts(place, 0));
        }
        for (int s : new int[] {-1, 3, 4, 9, 10, MIN, MAX}) {
            Check.due("puts(0, " + s + ")", BAD, x.puts(0, s));
        }
        Check.message("nothing changed", x, 0, 1);
        Check.due("nothing to undo but the two", 2, x.count(9));
        Check.due("no SENTENCE in an empty book", BAD, new FlagHoists().puts(0, 0));
    }

    private static void putsFull() {
        FlagHoists x = three(0, 1, 2, 0, 1, 2, 0);
        Check.due("the eighth", 8, x.puts(3, 1));
        for (int place = 0; place <= 8; place++) {
            Check.due("a ninth at " + place, FULL, x.puts(place, 0));
        }
        Check.due("BAD is the first", BAD, x.puts(9, 0));
        Check.due("BAD is the first", BAD, x.puts(-1, 0));
        Check.due("BAD is the first", BAD, x.puts(0, 3));
        Check.message("nothing changed", x, 0, 1, 2, 1, 0, 1, 2, 0);
        Check.due("8 may be UNDONE", 8, x.count(9));
        x.takes(0);
        Check.due("there is a place again", 8, x.puts(7, 2));
        x.undo();
        x.undo();
        Check.due("full again", FULL, x.puts(0, 0));
    }

    private static void takesSentence() {
        FlagHoists x = Check.with("ka;kb;kc;kd;ke;kf;kg;kh;kaa;kab;", 9, 0, 5);
        Check.due("takes(0)", 9, x.takes(0));
        Check.due("takes(1)", 5, x.takes(1));
        Check.due("takes(0)", 0, x.takes(0));
    }

    private static void takesBad() {
        FlagHoists x = three(0, 1);
        for (int place : new int[] {-1, 2, 3, 7, 8, MIN, MAX}) {
            Check.due("takes(" + place + ")", BAD, x.takes(place));
        }
        Check.message("nothing changed", x, 0, 1);
        Check.due("2 may be UNDONE", 2, x.count(9));
        Check.due("of none", BAD, three().takes(0));
        FlagHoists full = three(0, 0, 0, 0, 0, 0, 0, 2);
        Check.due("takes(8) of 8", BAD, full.takes(8));
        Check.due("takes(7) of 8", 2, full.takes(7));
        Check.due("takes(7) of 7", BAD, full.takes(7));
    }

    private static void placesWere() {
        for (int were = 3; were <= 7; were++) {
            for (int n = 3; n <= 7; n++) {
                FlagHoists x = Check.booked("p" + were + ";ka;");
                Check.due("places(" + n + ")", n == were ? STATE : were, x.places(n));
                Check.due("PLACES", n, x.count(2));
            }
        }
    }

    private static void placesBad() {
        FlagHoists x = three(0);
        for (int n : new int[] {2, 8, 1, 0, -1, 9, -3, MIN, MAX, MIN + 3}) {
            Check.due("places(" + n + ")", BAD, x.places(n));
        }
        Check.due("PLACES", 3, x.count(2));
        Check.due("1 may be UNDONE", 1, x.count(9));
    }

    private static void placesState() {
        FlagHoists fresh = new FlagHoists();
        Check.due("5 at first", STATE, fresh.places(5));
        Check.due("nothing was done", 0, fresh.count(9));
        FlagHoists x = secondUp();
        int known = x.count(9);
        Check.due("they are that", STATE, x.places(3));
        Check.due("it is up still", 1, x.count(5));
        Check.due("as many may be UNDONE", known, x.count(9));
    }

    private static void sendsNumber() {
        FlagHoists x = Check.with("p3;kabc;", 0, 0, 0, 0, 0, 0, 0, 0);
        for (int k = 0; k < 8; k++) {
            Check.due("sends", k, x.sends());
            x.answers(0);
            x.answers(1);
        }
    }

    private static void sendsUp() {
        FlagHoists x = three(0, 1, 2);
        x.sends();
        Check.due("one is up", STATE, x.sends());
        x.answers(0);
        Check.due("it is up again", STATE, x.sends());
        Check.due("nothing changed", 0, x.count(5));
        Check.due("nothing changed", 2, x.answers(1));
        Check.due("none is up", 1, x.sends());
        Check.due("the last is up", STATE, x.sends());
    }

    private static void sendsNotMade() {
        FlagHoists x = Check.with("p3;ka;kabcd;", 0, 0, 0, 1);
        Check.due("it can not be MADE", STATE, x.sends());
        Check.due("none is up", NONE, x.count(5));
        Check.due("4 may be UNDONE", 4, x.count(9));
        x.places(4);
        Check.due("it can be MADE", 0, x.sends());
    }

    private static void sendsAll() {
        FlagHoists x = allUnderstood();
        int known = x.count(9);
        Check.due("all were SENT", STATE, x.sends());
        Check.due("none is up", NONE, x.count(5));
        Check.due("understood", 2, x.count(6));
        Check.due("as many may be UNDONE", known, x.count(9));
        Check.due("an empty message has none", STATE, three().sends());
        Check.due("an empty book", STATE, new FlagHoists().sends());
        x.undo();
        Check.due("the last is up again", STATE, x.sends());
        x.undo();
        x.undo();
        Check.due("it may be SENT again", 1, x.sends());
    }

    private static void answersOften() {
        FlagHoists x = three(0, 1, 2);
        x.sends();
        Check.due("understood at once", 1, x.answers(1));
        x.sends();
        Check.due("not seen", 2, x.answers(0));
        Check.due("not seen", 3, x.answers(0));
        Check.due("understood", 3, x.answers(1));
        FlagHoists again = three(0);
        again.sends();
        again.undo();
        again.sends();
        Check.due("what was undone was not SENT", 1, again.answers(1));
    }

    private static void answersBad() {
        FlagHoists x = three(0);
        for (int how : new int[] {-1, 2, 3, MIN, MAX}) {
            Check.due("none is up: answers(" + how + ")", BAD, x.answers(how));
        }
        x.sends();
        for (int how : new int[] {-1, 2, 3, MIN, MAX}) {
            Check.due("one is up: answers(" + how + ")", BAD, x.answers(how));
        }
        Check.due("it is up still", 0, x.count(5));
        Check.due("2 may be UNDONE", 2, x.count(9));
        Check.due("SENT once", 1, x.answers(1));
    }

    private static void answersState() {
        FlagHoists x = three(0, 1, 2);
        for (int how = 0; how <= 1; how++) {
            Check.due("nothing was SENT", STATE, x.answers(how));
        }
        x.sends();
        x.answers(1);
        for (int how = 0; how <= 1; how++) {
            Check.due("it is down", STATE, x.answers(how));
        }
        Check.due("one was understood", 1, x.count(6));
        Check.due("5 may be UNDONE", 5, x.count(9));
        for (int how = 0; how <= 1; how++) {
            Check.due("all were understood", STATE, allUnderstood().answers(how));
            Check.due("an empty message", STATE, three().answers(how));
        }
    }

    private static void undoMore() {
        FlagHoists x = three(0, 1, 2);
        for (int left = 2; left >= 0; left--) {
            Check.due("undo", left, x.undo());
            Check.due("count(9)", left, x.count(9));
        }
        FlagHoists full = three(0, 1, 2, 0, 1, 2, 0, 1);
        full.takes(7);
        full.takes(6);
        full.takes(5);
        Check.due("ten of eleven", 9, full.undo());
    }

    private static void undoState() {
        FlagHoists fresh = new FlagHoists();
        Check.due("new", STATE, fresh.undo());
        FlagHoists x = three(0);
        x.undo();
        Check.due("all are UNDONE", STATE, x.undo());
        Check.due("again", STATE, x.undo());
        Check.message("nothing changed", x);
        x.puts(0, 2);
        Check.due("a deed more", 0, x.undo());
        Check.due("it is UNDONE", STATE, x.undo());
    }
}
