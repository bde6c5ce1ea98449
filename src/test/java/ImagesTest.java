/** Promises 23 to 25: keep, back, count. */
public final class ImagesTest {
    private static final int BAD = -1, STATE = -2, NONE = -9;

    public static void main(String[] args) {
        refused();
        keepsMessageAndPlaces();
        keepsWhatWasSent();
        keepsNothingElse();
        counts();
        Check.end();
    }

    private static void refused() {
        FlagHoists x = Check.booked("ka;");
        Check.due("keep(-1)", BAD, x.keep(-1));
        Check.due("keep(2)", BAD, x.keep(2));
        Check.due("keep(MIN)", BAD, x.keep(Integer.MIN_VALUE));
        Check.due("back(-1)", BAD, x.back(-1));
        Check.due("back(2)", BAD, x.back(2));
        Check.due("back(MAX)", BAD, x.back(Integer.MAX_VALUE));
        Check.due("back(0)", STATE, x.back(0));
        Check.due("keep(1)", 0, x.keep(1));
        Check.due("back(0) still", STATE, x.back(0));
        Check.put(x, 0);
        Check.due("back(0), nothing changes", STATE, x.back(0));
        Check.due("may be undone", 1, x.count(9));
        Check.due("back(1)", 0, x.back(1));
        Check.message("back(1)", x);
    }

    private static void keepsMessageAndPlaces() {
        FlagHoists x = Check.booked("p4;ka;kb;kc;");
        Check.put(x, 2, 1);
        Check.due("keep(0)", 2, x.keep(0));
        Check.put(x, 0, 0, 0);
        x.places(7);
        Check.due("keep(1)", 5, x.keep(1));
        x.takes(0);
        Check.due("back(0)", 2, x.back(0));
        Check.message("back(0)", x, 2, 1);
        Check.due("PLACES", 4, x.count(2));
        Check.due("nothing can be undone", 0, x.count(9));
        Check.due("undo", STATE, x.undo());
        Check.put(x, 0);
        Check.due("undo goes back to the image, not behind it", 0, x.undo());
        Check.message("undone", x, 2, 1);
        Check.due("back(1)", 5, x.back(1));
        Check.message("back(1)", x, 2, 1, 0, 0, 0);
        Check.due("PLACES", 7, x.count(2));
        x.takes(4);
        Check.due("back(1) again", 5, x.back(1));
        Check.due("keep over it", 5, x.keep(0));
        x.takes(0);
        Check.due("back(0) is the new one", 5, x.back(0));
    }

    private static void keepsWhatWasSent() {
        FlagHoists x = Check.booked("p3;ka;kb;kc;");
        Check.put(x, 0, 1, 2);
        x.sends();
        x.answers(1);
        x.sends();
        x.answers(0);
        x.keep(0);
        x.answers(1);
        x.keep(1);
        x.takes(0);
        x.back(0);
        Check.due("up", 1, x.count(5));
        Check.due("understood", 1, x.count(6));
        Check.due("it was sent twice", 3, x.answers(0));
        x.back(1);
        Check.due("none is up", NONE, x.count(5));
        Check.due("understood", 2, x.count(6));
        Check.due("all were sent", STATE, x.sends());
    }

    private static void keepsNothingElse() {
        FlagHoists x = Check.booked("ka;kb;");
        Check.put(x, 0);
        x.sees(0, 1);
        x.type(112);
        x.keep(0);
        Check.due("keep is no deed", 1, x.count(9));
        x.sees(0, 2);
        x.sees(0, 3);
        x.type(53);
        x.back(0);
        Check.due("seen", 3, x.count(7));
        Check.due("letters", 2, x.count(8));
        x.takes(0);
        x.undo();
        Check.due("an image is there behind undo", 1, x.back(0));
    }

    private static void counts() {
        FlagHoists x = Check.booked("p3;fa1 2;fb1 2;ka;kb;kcde;");
        Check.put(x, 0, 2);
        x.sends();
        x.answers(1);
        x.sends();
        x.sees(0, 1);
        x.sees(0, 2);
        x.type(32);
        x.type(32);
        x.type(32);
        int[] due = {3, 2, 3, 2, 2, 1, 1, 2, 3, 5};
        for (int what = 0; what < due.length; what++) {
            Check.due("count(" + what + ")", due[what], x.count(what));
        }
        Check.due("count(-1)", BAD, x.count(-1));
        Check.due("count(10)", BAD, x.count(10));
        Check.due("count(MIN)", BAD, x.count(Integer.MIN_VALUE));
        Check.due("count(MAX)", BAD, x.count(Integer.MAX_VALUE));
    }
}
