/** Promises 15 to 17: message, hoist, thing; and how a message is made into hoists. */
public final class MessageTest {
    private static final int BAD = -1, NONE = -9;

    public static void main(String[] args) {
        message();
        substitutes();
        notLawful();
        tacksAndPlaces();
        ties();
        notMade();
        wrongNumbers();
        Check.end();
    }

    private static void message() {
        FlagHoists x = Check.with("ka;kb;", 1, 0, 1);
        Check.due("message(0)", 1, x.message(0));
        Check.due("message(1)", 0, x.message(1));
        Check.due("message(2)", 1, x.message(2));
        Check.due("message(3)", BAD, x.message(3));
        Check.due("message(-1)", BAD, x.message(-1));
        Check.due("message(MAX)", BAD, x.message(Integer.MAX_VALUE));
    }

    private static void substitutes() {
        Check.things("aaaa", Check.with("kaaaa;", 0), 0, 0, 11, 12, 13);
        Check.things("abab", Check.with("kabab;", 0), 0, 0, 1, 11, 12);
        Check.things("abbb", Check.with("kabbb;", 0), 0, 0, 1, 12, 13);
        Check.things("abca", Check.with("kabca;", 0), 0, 0, 1, 2, 11);
        FlagHoists twice = Check.with("p7;kabc;", 0, 0);
        Check.things("abc abc", twice, 0, 0, 1, 2, 20, 11, 12, 13);
        Check.due("how many", 3, twice.hoist(0, 3));
        // TACKS are not counted: the second of these letters is b, the third the a behind the tack
        FlagHoists thrice = Check.with("p7;kab;ka;", 0, 0, 1);
        Check.things("ab ab a", thrice, 0, 0, 1, 20, 11, 12, 20, 13);
        FlagHoists first = Check.with("p7;ka;kba;", 0, 1, 0);
        Check.things("a ba a", first, 0, 0, 20, 1, 11, 20, 13);
        Check.due("how many", 2, first.hoist(0, 3));
        FlagHoists none = Check.with("p7;kab;kcd;", 0, 1);
        Check.due("none", 0, none.hoist(0, 3));
        // each HOIST begins anew
        FlagHoists two = Check.with("p3;kabc;", 0, 0);
        Check.things("abc", two, 0, 0, 1, 2);
        Check.things("abc again", two, 1, 0, 1, 2);
        Check.due("none", 0, two.hoist(1, 3));
    }

    private static void notLawful() {
        Check.cut("d is the fourth letter", Check.with("p7;kabcd;kd;", 0, 1), 1, 1);
        Check.cut("c is the third letter", Check.with("p7;kabcd;kc;", 0, 1), 2);
        Check.cut("substitutes are used up", Check.with("p7;ka;", 0, 0, 0, 0, 0), 4, 1);
        Check.cut("b has one substitute", Check.with("p7;kab;kbb;", 0, 1, 1), 2, 1);
        Check.things("ab bb", Check.with("p7;kab;kbb;", 0, 1, 1), 0, 0, 1, 20, 12, 13);
        Check.cut("substitute 1 is shown", Check.with("p7;kabc;kaa;", 0, 1), 1, 1);
    }

    private static void tacksAndPlaces() {
        Check.cut("a tack counts", Check.with("p4;kab;kcd;", 0, 1), 1, 1);
        Check.cut("they fit", Check.with("p5;kab;kcd;", 0, 1), 2);
        FlagHoists x = Check.with("p5;ka;kb;kc;kd;", 0, 1, 2, 3);
        Check.cut("three and one", x, 3, 1);
        Check.things("three", x, 0, 0, 20, 1, 20, 2);
        Check.things("one", x, 1, 3);
        x.places(7);
        Check.cut("four", x, 4);
        x.places(3);
        Check.cut("two and two", x, 2, 2);
        x.places(4);
        Check.cut("a tack without a code behind it is not put", x, 2, 2);
        Check.things("two", x, 0, 0, 20, 1);
        Check.cut("no sentence, no hoist", Check.with("p5;ka;"));
        Check.cut("eight hoists", Check.with("p3;kabc;", 0, 0, 0, 0, 0, 0, 0, 0), 1, 1, 1, 1, 1, 1, 1, 1);
    }

    private static void ties() {
        Check.cut("most first", Check.with("p3;ka;kb;kc;", 0, 1, 2), 2, 1);
        Check.cut("most first, then most second", Check.with("p5;ka;kb;kc;kd;ke;", 0, 1, 2, 3, 4), 3, 2);
        Check.cut("most second", Check.with("p5;kabc;ka;kb;kd;ke;", 0, 1, 2, 3, 4), 2, 3);
        Check.cut("most second", Check.with("p3;kabc;ka;kb;kd;", 0, 1, 2, 3), 1, 2, 1);
    }

    private static void notMade() {
        FlagHoists x = Check.with("p3;ka;kabcd;", 0, 1);
        Check.due("hoist(0, 0)", NONE, x.hoist(0, 0));
        Check.due("hoist(0, 3)", NONE, x.hoist(0, 3));
        Check.due("thing(0, 0)", NONE, x.thing(0, 0));
        Check.due("count(3)", NONE, x.count(3));
        Check.due("count(4)", NONE, x.count(4));
        Check.due("meanings(0, 1)", NONE, x.meanings(0, 1));
        x.takes(1);
        x.puts(0, 1);
        Check.due("at the first place", NONE, x.count(3));
        x.takes(0);
        Check.cut("made", x, 1);
    }

    private static void wrongNumbers() {
        FlagHoists x = Check.with("p5;ka;kb;", 0, 1);
        Check.due("hoist(-1, 0)", BAD, x.hoist(-1, 0));
        Check.due("hoist(MIN, 0)", BAD, x.hoist(Integer.MIN_VALUE, 0));
        Check.due("hoist(0, -1)", BAD, x.hoist(0, -1));
        Check.due("hoist(0, 4)", BAD, x.hoist(0, 4));
        Check.due("hoist(1, 4)", BAD, x.hoist(1, 4));
        Check.due("hoist(1, 0)", NONE, x.hoist(1, 0));
        Check.due("hoist(8, 0)", NONE, x.hoist(8, 0));
        Check.due("hoist(9, 0)", NONE, x.hoist(9, 0));
        Check.due("hoist(MAX, 3)", NONE, x.hoist(Integer.MAX_VALUE, 3));
        Check.due("thing(-1, 0)", BAD, x.thing(-1, 0));
        Check.due("thing(0, -1)", BAD, x.thing(0, -1));
        Check.due("thing(9, -1)", BAD, x.thing(9, -1));
        Check.due("thing(MIN, MIN)", BAD, x.thing(Integer.MIN_VALUE, Integer.MIN_VALUE));
        Check.due("thing(0, 3)", NONE, x.thing(0, 3));
        Check.due("thing(0, 7)", NONE, x.thing(0, 7));
        Check.due("thing(0, MAX)", NONE, x.thing(0, Integer.MAX_VALUE));
        Check.due("thing(1, 0)", NONE, x.thing(1, 0));
        Check.due("thing(MAX, 0)", NONE, x.thing(Integer.MAX_VALUE, 0));
    }
}
