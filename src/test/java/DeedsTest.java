/** Promises 9 to 14: puts, takes, places, sends, answers, undo. */
public final class DeedsTest {
    private static final int BAD = -1, STATE = -2, FULL = -3, NONE = -9;

    public static void main(String[] args) {
        putting();
        taking();
        placing();
        sending();
        sendingRefused();
        changesTakeAllDown();
        undoing();
        undoOfSending();
        tenAreKnown();
        refusedIsNotUndone();
        Check.end();
    }

    private static FlagHoists three() {
        return Check.booked("ka;kb;kcd;");
    }

    private static void putting() {
        FlagHoists x = three();
        Check.due("puts(0, 0)", 1, x.puts(0, 0));
        Check.due("puts(1, 1)", 2, x.puts(1, 1));
        Check.due("puts(0, 2)", 3, x.puts(0, 2));
        Check.due("puts(1, 1)", 4, x.puts(1, 1));
        Check.message("put", x, 2, 1, 0, 1);
        Check.due("puts(5, 0)", BAD, x.puts(5, 0));
        Check.due("puts(-1, 0)", BAD, x.puts(-1, 0));
        Check.due("puts(0, 3)", BAD, x.puts(0, 3));
        Check.due("puts(0, -1)", BAD, x.puts(0, -1));
        Check.due("puts(MAX, 0)", BAD, x.puts(Integer.MAX_VALUE, 0));
        Check.due("puts(0, MIN)", BAD, x.puts(0, Integer.MIN_VALUE));
        Check.message("refused", x, 2, 1, 0, 1);
        Check.put(x, 0, 0, 0, 0);
        Check.due("puts(8, 0), the ninth", FULL, x.puts(8, 0));
        Check.due("puts(0, 0), the ninth", FULL, x.puts(0, 0));
        Check.due("BAD place ahead of FULL", BAD, x.puts(9, 0));
        Check.due("BAD sentence ahead of FULL", BAD, x.puts(0, 3));
        Check.message("full", x, 2, 1, 0, 1, 0, 0, 0, 0);
    }

    private static void taking() {
        FlagHoists x = three();
        Check.due("takes(0) of none", BAD, x.takes(0));
        Check.put(x, 2, 1, 0, 1);
        Check.due("takes(-1)", BAD, x.takes(-1));
        Check.due("takes(4)", BAD, x.takes(4));
        Check.due("takes(MIN)", BAD, x.takes(Integer.MIN_VALUE));
        Check.due("takes(2)", 0, x.takes(2));
        Check.message("taken", x, 2, 1, 1);
        Check.due("takes(0)", 2, x.takes(0));
        Check.message("taken", x, 1, 1);
        Check.due("takes(1)", 1, x.takes(1));
        Check.due("takes(0)", 1, x.takes(0));
        Check.due("takes(0)", BAD, x.takes(0));
        FlagHoists full = three();
        Check.put(full, 0, 1, 2, 0, 1, 2, 0, 1);
        Check.due("takes(7) of 8", 1, full.takes(7));
        Check.due("takes(0) of 7", 0, full.takes(0));
        Check.message("taken", full, 1, 2, 0, 1, 2, 0);
    }

    private static void placing() {
        FlagHoists x = three();
        Check.due("places(5)", STATE, x.places(5));
        Check.due("places(7)", 5, x.places(7));
        Check.due("places(7)", STATE, x.places(7));
        Check.due("places(3)", 7, x.places(3));
        Check.due("places(2)", BAD, x.places(2));
        Check.due("places(8)", BAD, x.places(8));
        Check.due("places(MIN)", BAD, x.places(Integer.MIN_VALUE));
        Check.due("PLACES", 3, x.count(2));
        Check.due("as many may be undone", 2, x.count(9));
    }

    private static void sending() {
        FlagHoists x = Check.booked("p3;ka;kb;kc;");
        Check.put(x, 0, 1, 2);
        Check.due("sends", 0, x.sends());
        Check.due("up", 0, x.count(5));
        Check.due("understood", 0, x.count(6));
        Check.due("sends while one is up", STATE, x.sends());
        Check.due("not seen, sent again", 2, x.answers(0));
        Check.due("up still", 0, x.count(5));
        Check.due("not seen, sent again", 3, x.answers(0));
        Check.due("understood 0", 0, x.count(6));
        Check.due("sends while one is up", STATE, x.sends());
        Check.due("understood", 3, x.answers(1));
        Check.due("none is up", NONE, x.count(5));
        Check.due("understood 1", 1, x.count(6));
        Check.due("answers, none being up", STATE, x.answers(1));
        Check.due("answers, none being up", STATE, x.answers(0));
        Check.due("BAD ahead of STATE", BAD, x.answers(2));
        Check.due("answers(-1)", BAD, x.answers(-1));
        Check.due("the next", 1, x.sends());
        Check.due("up", 1, x.count(5));
        Check.due("answers(2), one being up", BAD, x.answers(2));
        Check.due("sent once", 1, x.answers(1));
        Check.due("understood 2", 2, x.count(6));
        Check.due("all were sent", STATE, x.sends());
        Check.due("none is up", NONE, x.count(5));
        Check.due("10 at most may be undone", 9, x.count(9));
    }

    private static void sendingRefused() {
        FlagHoists x = Check.booked("p3;ka;kabcd;");
        Check.due("an empty message", STATE, x.sends());
        Check.put(x, 0, 1);
        Check.due("it can not be made", STATE, x.sends());
        Check.due("nothing changed", 2, x.count(9));
        x.places(4);
        Check.due("it can be made", 0, x.sends());
    }

    private static FlagHoists sentTwo() {
        FlagHoists x = Check.booked("p3;ka;kb;kc;");
        Check.put(x, 0, 1, 2);
        x.sends();
        x.answers(1);
        x.sends();
        return x;
    }

    private static void nothingSent(String when, FlagHoists x) {
        Check.due(when + ": none is up", NONE, x.count(5));
        Check.due(when + ": none understood", 0, x.count(6));
        Check.due(when + ": the first is sent", 0, x.sends());
        Check.due(when + ": it was sent once", 1, x.answers(1));
    }

    private static void changesTakeAllDown() {
        FlagHoists put = sentTwo();
        put.puts(3, 0);
        nothingSent("put", put);
        FlagHoists taken = sentTwo();
        taken.takes(0);
        nothingSent("taken", taken);
        FlagHoists placed = sentTwo();
        placed.places(7);
        nothingSent("placed", placed);
        FlagHoists refused = sentTwo();
        refused.places(3);
        refused.puts(4, 0);
        refused.takes(3);
        Check.due("refused: up still", 1, refused.count(5));
        Check.due("refused: understood still", 1, refused.count(6));
        FlagHoists other = sentTwo();
        other.keep(0);
        other.sees(0, 1);
        other.unseen();
        other.forget();
        other.type(112);
        other.clear();
        Check.due("other calls: up still", 1, other.count(5));
    }

    private static void undoing() {
        FlagHoists x = three();
        Check.due("undo of nothing", STATE, x.undo());
        Check.put(x, 0, 1);
        x.puts(1, 2);
        x.takes(0);
        x.places(6);
        Check.message("ahead", x, 2, 1);
        Check.due("undo of places", 4, x.undo());
        Check.due("PLACES", 5, x.count(2));
        Check.due("undo of takes", 3, x.undo());
        Check.message("takes undone", x, 0, 2, 1);
        Check.due("undo of puts", 2, x.undo());
        Check.message("puts undone", x, 0, 1);
        Check.due("puts in between", 3, x.puts(0, 2));
        Check.due("how many may be undone", 3, x.count(9));
        Check.due("undo", 2, x.undo());
        Check.due("undo", 1, x.undo());
        Check.due("undo", 0, x.undo());
        Check.message("all undone", x);
        Check.due("undo", STATE, x.undo());
        x.sees(1, 1);
        x.keep(0);
        Check.due("sees and keep are not undone", STATE, x.undo());
    }

    private static void undoOfSending() {
        FlagHoists x = sentTwo();
        x.answers(0);
        x.takes(0);
        Check.due("undo of takes", 7, x.undo());
        Check.due("the second is up again", 1, x.count(5));
        Check.due("one is understood again", 1, x.count(6));
        Check.due("it was sent twice ahead of that", 3, x.answers(0));
        x.undo();
        x.undo();
        Check.due("it was sent once", 2, x.answers(0));
        x.undo();
        Check.due("undo of sends", 5, x.undo());
        Check.due("none is up", NONE, x.count(5));
        Check.due("one is understood", 1, x.count(6));
        Check.due("undo of answers", 4, x.undo());
        Check.due("the first is up", 0, x.count(5));
        Check.due("none is understood", 0, x.count(6));
        Check.due("it was sent once", 1, x.answers(1));
    }

    private static void tenAreKnown() {
        FlagHoists x = three();
        Check.put(x, 0, 1, 2, 0, 1, 2, 0);
        x.takes(6);
        x.takes(5);
        x.takes(4);
        Check.due("10", 10, x.count(9));
        x.takes(3);
        x.takes(2);
        Check.due("10 at most", 10, x.count(9));
        for (int left = 9; left >= 0; left--) {
            Check.due("undo", left, x.undo());
        }
        Check.due("older ones are lost", STATE, x.undo());
        Check.message("the first two can't be undone", x, 0, 1);
        x.puts(0, 2);
        Check.due("undo goes on", 0, x.undo());
        Check.message("as ahead", x, 0, 1);
    }

    private static void refusedIsNotUndone() {
        FlagHoists x = three();
        Check.put(x, 0);
        x.puts(7, 0);
        x.takes(1);
        x.places(5);
        x.places(9);
        x.answers(1);
        x.answers(4);
        x.sends();
        x.sends();
        Check.due("two deeds", 2, x.count(9));
        x.undo();
        Check.due("sends is undone", NONE, x.count(5));
        x.undo();
        Check.due("puts is undone", 0, x.count(1));
    }
}
