/** Promises 20 to 22: sees, forget, unseen. */
public final class UnseenTest {
    private static final int BAD = -1, FULL = -3;

    public static void main(String[] args) {
        seeing();
        forgetting();
        unseen();
        unseenNotMade();
        changesNothing();
        Check.end();
    }

    private static void seeing() {
        FlagHoists x = new FlagHoists();
        Check.due("sees(0, 0)", 1, x.sees(0, 0));
        Check.due("sees(7, 7)", 2, x.sees(7, 7));
        Check.due("sees(7, 7) again", 3, x.sees(7, 7));
        Check.due("sees(-1, 0)", BAD, x.sees(-1, 0));
        Check.due("sees(8, 0)", BAD, x.sees(8, 0));
        Check.due("sees(0, -1)", BAD, x.sees(0, -1));
        Check.due("sees(0, 8)", BAD, x.sees(0, 8));
        Check.due("sees(MIN, MAX)", BAD, x.sees(Integer.MIN_VALUE, Integer.MAX_VALUE));
        Check.due("count(7)", 3, x.count(7));
        x.sees(0, 0);
        x.sees(0, 0);
        Check.due("the sixth", 6, x.sees(0, 0));
        Check.due("the seventh", FULL, x.sees(0, 0));
        Check.due("BAD ahead of FULL", BAD, x.sees(8, 0));
        Check.due("count(7)", 6, x.count(7));
    }

    private static void forgetting() {
        FlagHoists x = Check.booked("ka;");
        Check.put(x, 0);
        Check.due("forget of nothing", 0, x.forget());
        x.sees(0, 4);
        x.sees(1, 4);
        Check.due("unseen", 0, x.unseen());
        Check.due("forget", 2, x.forget());
        Check.due("count(7)", 0, x.count(7));
        Check.due("unseen", 1, x.unseen());
        Check.due("sees", 1, x.sees(0, 0));
        Check.due("unseen", 1, x.unseen());
    }

    private static void unseen() {
        FlagHoists x = Check.booked("p5;ka;kbc;kdef;");
        Check.due("an empty message", 0, x.unseen());
        x.sees(0, 0);
        Check.due("an empty message, of which something is seen", 0, x.unseen());
        x.forget();
        Check.put(x, 0, 1, 2, 0);
        // without 0: bc, def a; without 1: a def, a; without 2: a bc, a: 4 and 1 things; without 3: a bc, def
        Check.due("nothing seen", 15, x.unseen());
        x.sees(0, 4);
        Check.due("a bc", 12, x.unseen());
        x.sees(1, 3);
        Check.due("a bc, def", 8, x.unseen());
        x.forget();
        x.sees(1, 5);
        Check.due("bc, def a", 1, x.unseen());
        x.sees(2, 0);
        Check.due("no third hoist", 1, x.unseen());
        x.sees(7, 0);
        Check.due("no eighth hoist", 1, x.unseen());
        x.sees(2, 1);
        Check.due("a third hoist", 0, x.unseen());
        x.forget();
        x.sees(1, 1);
        Check.due("a def and a bc", 6, x.unseen());
        x.forget();
        x.sees(0, 0);
        Check.due("none at all", 0, x.unseen());
        x.takes(0);
        x.takes(0);
        x.takes(0);
        Check.due("the one that there was", 1, x.unseen());
        x.forget();
        Check.put(x, 0, 0, 0, 0, 0, 0, 0);
        Check.due("all eight places", 255, x.unseen());
    }

    private static void unseenNotMade() {
        FlagHoists x = Check.booked("p3;ka;kbcde;");
        Check.put(x, 0, 1, 0);
        Check.due("made but without 1", 2, x.unseen());
        x.sees(0, 3);
        Check.due("a a", 2, x.unseen());
        x.sees(0, 2);
        Check.due("none", 0, x.unseen());
        x.forget();
        Check.put(x, 1);
        Check.due("never made", 0, x.unseen());
        x.sees(0, 0);
        Check.due("no hoist because it is not made does not count", 0, x.unseen());
        x.places(5);
        x.forget();
        Check.due("made", 15, x.unseen());
    }

    private static void changesNothing() {
        FlagHoists x = Check.booked("p5;ka;kbc;kdef;");
        Check.put(x, 0, 1, 2);
        x.sends();
        x.sees(0, 4);
        x.unseen();
        Check.message("unseen", x, 0, 1, 2);
        Check.due("up", 0, x.count(5));
        Check.due("may be undone", 4, x.count(9));
        Check.due("seen", 1, x.count(7));
        Check.cut("as ahead", x, 2, 1);
        x.undo();
        x.takes(0);
        x.keep(0);
        x.back(0);
        Check.due("deeds, undo and back leave what was seen", 1, x.count(7));
    }
}
