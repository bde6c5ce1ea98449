/** The edges of hoists, of a message made into them, and of promises 15 to 17. */
final class HoistEdges {
    private static final int BAD = -1, NONE = -9;
    private static final int MIN = Integer.MIN_VALUE, MAX = Integer.MAX_VALUE;
    private static final int TACK = 20;

    private HoistEdges() {
    }

    static void all(Edges edges) {
        edges.edge(0, "A HOIST holds CODES, a TACK between two of them.", HoistEdges::tacks);
        edges.edge(0, "Its LETTERS are counted from 1 on, TACKS not.", HoistEdges::tacksNotCounted);
        edges.edge(0, "One that was not there ahead of it in the HOIST is shown by its FLAG;", HoistEdges::firstByFlag);
        edges.edge(0, "else by SUBSTITUTE n: the lowest n of 1 .. 3,", HoistEdges::lowestSubstitute);
        edges.edge(0, "not shown in the HOIST yet,", HoistEdges::substituteOnce);
        edges.edge(0, "the n-th LETTER being it;", HoistEdges::letterOfSubstitute);
        edges.edge(0, "if there is none the HOIST is not LAWFUL.", HoistEdges::noSubstitute);
        edges.edge(0, "It holds as many things as LETTERS and TACKS together;", HoistEdges::thingsTogether);
        edges.edge(0, "it is not LAWFUL with more than PLACES.", HoistEdges::morePlaces);
        edges.edge(0, "THE MESSAGE: SENTENCES, one behind the other (8 at most; none at first).", HoistEdges::messageSize);
        edges.edge(0, "MADE: it is cut into as few LAWFUL HOISTS as can be (SENTENCES in their order, none cut),", HoistEdges::asFew);
        edges.edge(0, "of several such cuts that with the most SENTENCES in the first HOIST, then in the second ..;",
                HoistEdges::mostFirst);
        edges.edge(0, "it can not be MADE, if some SENTENCE alone is not LAWFUL.", HoistEdges::canNotBeMade);
        edges.edge(15, "The SENTENCE at a place.", HoistEdges::messagePlaces);
        edges.edge(15, "BAD.", HoistEdges::messageBad);
        edges.edge(16, "Of a HOIST: 0 its first place in THE MESSAGE, 1 how many SENTENCES,", HoistEdges::hoistSentences);
        edges.edge(16, "2 how many things, 3 how many SUBSTITUTES;", HoistEdges::hoistThings);
        edges.edge(16, "NONE: it can not be MADE,", HoistEdges::hoistNotMade);
        edges.edge(16, "there are not so many.", HoistEdges::hoistNotSoMany);
        edges.edge(16, "BAD: k below 0, what.", HoistEdges::hoistBad);
        edges.edge(17, "The i-th thing of a HOIST (0 on): 0 .. 7 a FLAG, 11 .. 13 a SUBSTITUTE (10 and n), 20 a TACK;",
                HoistEdges::thingKinds);
        edges.edge(17, "NONE: not so many.", HoistEdges::thingNone);
        edges.edge(17, "BAD: k, i below 0.", HoistEdges::thingBad);
    }

    private static void tacks() {
        Check.things("one code has none", Check.with("ka;", 0), 0, 0);
        Check.things("two codes have one", Check.with("ka;kb;", 0, 1), 0, 0, TACK, 1);
        Check.things("four codes have three", Check.with("p7;ka;kb;kc;kd;", 0, 1, 2, 3), 0, 0, TACK, 1, TACK, 2, TACK, 3);
        FlagHoists two = Check.with("p3;ka;kb;kc;", 0, 1, 2);
        Check.things("none between two hoists", two, 0, 0, TACK, 1);
        Check.things("none ahead of the first code of a hoist", two, 1, 2);
        // a tack would fit, a code behind it would not
        Check.things("none at the end", Check.with("p4;kabc;kd;", 0, 1), 0, 0, 1, 2);
    }

    private static void tacksNotCounted() {
        // the LETTERS of a | ba | a are a b a a: the third is the a behind the b
        Check.things("a ba a", Check.with("p7;ka;kba;", 0, 1, 0), 0, 0, TACK, 1, 11, TACK, 13);
        // the LETTERS of a | b | b are a b b: the second is b
        Check.things("a b b", Check.with("p5;ka;kb;", 0, 1, 1), 0, 0, TACK, 1, TACK, 12);
        // the LETTERS of a | b | c | c: c is the third
        Check.things("a b c c", Check.with("p7;ka;kb;kc;", 0, 1, 2, 2), 0, 0, TACK, 1, TACK, 2, TACK, 13);
    }

    private static void firstByFlag() {
        for (int f = 0; f < 8; f++) {
            char letter = (char) ('a' + f);
            Check.things("one " + letter, Check.with("k" + letter + ";", 0), 0, f);
            Check.things("two " + letter, Check.with("k" + letter + letter + ";", 0), 0, f, 11);
        }
        FlagHoists x = Check.with("p4;kabcd;", 0, 0);
        Check.things("there ahead, but in another HOIST", x, 1, 0, 1, 2, 3);
        Check.due("no SUBSTITUTES", 0, x.hoist(1, 3));
    }

    private static void lowestSubstitute() {
        Check.things("aaaa", Check.with("kaaaa;", 0), 0, 0, 11, 12, 13);
        Check.things("aba a", Check.with("p7;kaba;ka;", 0, 1), 0, 0, 1, 11, TACK, 13);
        Check.things("baab", Check.with("kbaab;", 0), 0, 1, 0, 12, 11);
        Check.things("abbb", Check.with("kabbb;", 0), 0, 0, 1, 12, 13);
        // the fourth LETTER is an a too, but there is no fourth SUBSTITUTE
        FlagHoists x = Check.with("p7;kaaaa;ka;", 0, 1);
        Check.cut("aaaa a", x, 1, 1);
    }

    private static void substituteOnce() {
        Check.things("aaa", Check.with("kaaa;", 0), 0, 0, 11, 12);
        Check.cut("a b a a: the third is a, shown by 11 then 13", Check.with("p7;ka;kb;", 0, 1, 0, 0), 4);
        Check.cut("abc a a: 11 is shown already", Check.with("p7;kabc;kaa;", 0, 1), 1, 1);
        Check.cut("abc b b: 12 is shown already", Check.with("p7;kabc;kbb;", 0, 1), 1, 1);
        Check.cut("abc c c: 13 is shown already", Check.with("p7;kabc;kcc;", 0, 1), 1, 1);
        // in another HOIST it may be shown again
        FlagHoists x = Check.with("p3;kaa;", 0, 0);
        Check.things("aa", x, 0, 0, 11);
        Check.things("aa again", x, 1, 0, 11);
    }

    private static void letterOfSubstitute() {
        Check.things("abca", Check.with("kabca;", 0), 0, 0, 1, 2, 11);
        Check.things("abcb", Check.with("kabcb;", 0), 0, 0, 1, 2, 12);
        Check.things("abcc", Check.with("kabcc;", 0), 0, 0, 1, 2, 13);
        Check.things("abc cba", Check.with("p7;kabc;kcba;", 0, 1), 0, 0, 1, 2, TACK, 13, 12, 11);
        // a LETTER shown by a SUBSTITUTE is the n-th LETTER too
        Check.things("aab a", Check.with("p7;kaab;ka;", 0, 1), 0, 0, 11, 1, TACK, 12);
    }

    private static void noSubstitute() {
        Check.cut("d is the fourth LETTER", Check.with("p7;kabcd;kd;", 0, 1), 1, 1);
        Check.cut("c is the third LETTER", Check.with("p7;kabcd;kc;", 0, 1), 2);
        Check.cut("five a, three SUBSTITUTES", Check.with("p7;kaaa;kaa;", 0, 1), 1, 1);
        Check.cut("four a", Check.with("p7;kaaa;ka;", 0, 1), 2);
        Check.cut("a third b", Check.with("p7;kab;kb;", 0, 1, 1, 1), 3, 1);
    }

    private static void thingsTogether() {
        FlagHoists x = Check.with("p7;kabc;kab;ka;", 0, 1);
        Check.due("five LETTERS and a TACK", 6, x.hoist(0, 2));
        Check.due("two of them by SUBSTITUTES", 2, x.hoist(0, 3));
        FlagHoists singles = Check.with("p7;ka;kb;kc;kd;", 0, 1, 2, 3);
        Check.due("four LETTERS and three TACKS", 7, singles.hoist(0, 2));
        Check.due("one LETTER", 1, Check.with("ka;", 0).hoist(0, 2));
        Check.due("four LETTERS", 4, Check.with("kaaaa;", 0).hoist(0, 2));
    }

    private static void morePlaces() {
        Check.cut("3 of 3", Check.with("p3;kabc;", 0), 1);
        Check.due("4 of 3", NONE, Check.with("p3;kabcd;", 0).count(3));
        Check.cut("4 of 4", Check.with("p4;kabcd;", 0), 1);
        Check.cut("5 of 5", Check.with("p5;kab;kcd;", 0, 1), 2);
        Check.cut("6 of 5", Check.with("p5;kabc;kde;", 0, 1), 1, 1);
        Check.cut("7 of 7", Check.with("p7;kabc;kdef;", 0, 1), 2);
        Check.cut("8 of 7", Check.with("p7;kabcd;kefg;", 0, 1), 1, 1);
        Check.cut("9 of 7", Check.with("p7;kabcd;kefgh;", 0, 1), 1, 1);
        Check.cut("a TACK takes the last place, and the code none", Check.with("p5;kabcd;ke;", 0, 1), 1, 1);
        // SUBSTITUTES hold places as FLAGS do
        Check.cut("4 of 3, by SUBSTITUTES", Check.with("p3;kaa;ka;", 0, 1), 1, 1);
        Check.due("aaaa", NONE, Check.with("p3;kaaaa;", 0).count(3));
    }

    private static void messageSize() {
        FlagHoists x = Check.booked("ka;kb;");
        Check.due("none at first", 0, x.count(1));
        Check.cut("no HOIST", x);
        for (int size = 1; size <= 8; size++) {
            Check.due("puts at the end", size, x.puts(size - 1, size % 2));
        }
        Check.due("a ninth", -3, x.puts(8, 0));
        Check.message("one behind the other", x, 1, 0, 1, 0, 1, 0, 1, 0);
    }

    private static void asFew() {
        Check.cut("one", Check.with("p7;ka;kb;kc;kd;", 0, 1, 2, 3), 4);
        Check.cut("eight, one by one", Check.with("p3;kabc;", 0, 0, 0, 0, 0, 0, 0, 0), 1, 1, 1, 1, 1, 1, 1, 1);
        Check.cut("two by two", Check.with("p3;ka;", 0, 0, 0, 0, 0, 0, 0, 0), 2, 2, 2, 2);
        // order stays, though other orders would need fewer
        Check.cut("abc a abc b", Check.with("p3;kabc;ka;kb;", 0, 1, 0, 2), 1, 1, 1, 1);
        Check.cut("a b abc abc", Check.with("p3;kabc;ka;kb;", 1, 2, 0, 0), 2, 1, 1);
        // a SENTENCE that would fit by half goes to the next
        FlagHoists x = Check.with("p5;kab;kabc;", 0, 1);
        Check.cut("ab abc", x, 1, 1);
        Check.things("it is whole there", x, 1, 0, 1, 2);
    }

    private static void mostFirst() {
        Check.cut("2 1, not 1 2", Check.with("p3;ka;", 0, 0, 0), 2, 1);
        Check.cut("3 1, not 2 2", Check.with("p5;ka;kb;kc;kd;", 0, 1, 2, 3), 3, 1);
        Check.cut("3 3 1, not 3 2 2", Check.with("p5;ka;kb;kc;kd;", 0, 1, 2, 3, 0, 1, 2), 3, 3, 1);
        Check.cut("1 2 1, not 1 1 2", Check.with("p3;kabc;ka;", 0, 1, 1, 1), 1, 2, 1);
        Check.cut("1 1 2 1, not 1 1 1 2", Check.with("p3;kabc;ka;", 0, 0, 1, 1, 1), 1, 1, 2, 1);
        Check.cut("2 2 2 1", Check.with("p3;ka;", 0, 0, 0, 0, 0, 0, 0), 2, 2, 2, 1);
    }

    private static void canNotBeMade() {
        for (int place = 0; place < 8; place++) {
            FlagHoists x = Check.booked("p3;ka;kabcd;");
            for (int i = 0; i < 8; i++) {
                x.puts(i, i == place ? 1 : 0);
            }
            Check.due("at " + place + ": count(3)", NONE, x.count(3));
            Check.due("at " + place + ": count(4)", NONE, x.count(4));
            Check.due("at " + place + ": hoist(0, 0)", NONE, x.hoist(0, 0));
            Check.due("at " + place + ": sends", -2, x.sends());
            x.places(4);
            Check.isTrue("a place more, and it is made", x.count(3) > 0);
            x.undo();
            x.takes(place);
            Check.cut("it being taken", x, 2, 2, 2, 1);
        }
        Check.due("it alone", NONE, Check.with("p3;kaaaa;", 0).count(3));
        Check.due("none of it in the message", 1, Check.with("p3;kaaaa;ka;", 1).count(3));
        Check.cut("an empty message is made", Check.booked("p3;kabcd;"));
    }

    private static void messagePlaces() {
        FlagHoists x = Check.with("ka;kb;kc;kd;ke;kf;kg;kh;kaa;kab;", 9, 8, 7, 6, 5, 4, 3, 0);
        int[] due = {9, 8, 7, 6, 5, 4, 3, 0};
        for (int place = 0; place < 8; place++) {
            Check.due("message(" + place + ")", due[place], x.message(place));
        }
    }

    private static void messageBad() {
        FlagHoists x = Check.with("ka;kb;", 1);
        for (int place : new int[] {-1, 1, 2, 7, 8, 9, MIN, MAX}) {
            Check.due("message(" + place + ")", BAD, x.message(place));
        }
        Check.due("of none", BAD, Check.booked("ka;").message(0));
        FlagHoists full = Check.with("ka;", 0, 0, 0, 0, 0, 0, 0, 0);
        Check.due("the eighth", 0, full.message(7));
        Check.due("a ninth", BAD, full.message(8));
        full.takes(7);
        Check.due("the eighth was taken", BAD, full.message(7));
    }

    private static void hoistSentences() {
        FlagHoists x = Check.with("p5;kabcd;ka;kb;kc;", 0, 1, 2, 3, 0, 0, 1, 1);
        int[] places = {0, 1, 4, 5, 6};
        int[] sizes = {1, 3, 1, 1, 2};
        for (int k = 0; k < 5; k++) {
            Check.due("hoist(" + k + ", 0)", places[k], x.hoist(k, 0));
            Check.due("hoist(" + k + ", 1)", sizes[k], x.hoist(k, 1));
        }
        FlagHoists eight = Check.with("p3;kabc;", 0, 0, 0, 0, 0, 0, 0, 0);
        Check.due("the eighth HOIST", 7, eight.hoist(7, 0));
        Check.due("its one SENTENCE", 1, eight.hoist(7, 1));
    }

    private static void hoistThings() {
        FlagHoists x = Check.with("p7;kaaaa;kab;kcd;", 0, 1, 1, 2);
        Check.cut("aaaa, ab ab, cd", x, 1, 2, 1);
        int[] things = {4, 5, 2};
        int[] substitutes = {3, 2, 0};
        for (int k = 0; k < 3; k++) {
            Check.due("hoist(" + k + ", 2)", things[k], x.hoist(k, 2));
            Check.due("hoist(" + k + ", 3)", substitutes[k], x.hoist(k, 3));
        }
    }

    private static void hoistNotMade() {
        FlagHoists x = Check.with("p3;ka;kabcd;", 0, 1);
        for (int what = 0; what < 4; what++) {
            Check.due("hoist(0, " + what + ")", NONE, x.hoist(0, what));
            Check.due("hoist(MAX, " + what + ")", NONE, x.hoist(MAX, what));
        }
        Check.due("BAD is the first", BAD, x.hoist(0, 4));
        Check.due("BAD is the first", BAD, x.hoist(-1, 0));
    }

    private static void hoistNotSoMany() {
        FlagHoists x = Check.with("p3;ka;", 0, 0, 0);
        for (int what = 0; what < 4; what++) {
            Check.isTrue("the last HOIST", x.hoist(1, what) >= 0);
            for (int k : new int[] {2, 3, 7, 8, 9, MAX - 1, MAX}) {
                Check.due("hoist(" + k + ", " + what + ")", NONE, x.hoist(k, what));
            }
            Check.due("of none", NONE, new FlagHoists().hoist(0, what));
        }
    }

    private static void hoistBad() {
        FlagHoists x = Check.with("ka;", 0);
        for (int k : new int[] {-1, -2, -9, MIN}) {
            Check.due("hoist(" + k + ", 0)", BAD, x.hoist(k, 0));
            Check.due("of none: hoist(" + k + ", 0)", BAD, new FlagHoists().hoist(k, 0));
        }
        for (int what : new int[] {-1, 4, 5, MIN, MAX}) {
            Check.due("hoist(0, " + what + ")", BAD, x.hoist(0, what));
            Check.due("hoist(1, " + what + ")", BAD, x.hoist(1, what));
            Check.due("of none: hoist(0, " + what + ")", BAD, new FlagHoists().hoist(0, what));
        }
    }

    private static void thingKinds() {
        Check.things("h", Check.with("kh;", 0), 0, 7);
        Check.things("hhh", Check.with("p7;kh;", 0, 0, 0, 0), 0, 7, TACK, 11, TACK, 12, TACK, 13);
        FlagHoists x = Check.with("p4;kabcd;kefgh;", 0, 1);
        Check.things("all FLAGS", x, 0, 0, 1, 2, 3);
        Check.things("all FLAGS", x, 1, 4, 5, 6, 7);
    }

    private static void thingNone() {
        FlagHoists x = Check.with("p7;kabc;kdef;", 0, 1, 0);
        Check.due("the seventh", 5, x.thing(0, 6));
        for (int i : new int[] {7, 8, 9, MAX}) {
            Check.due("thing(0, " + i + ")", NONE, x.thing(0, i));
        }
        Check.due("the third of the last HOIST", 2, x.thing(1, 2));
        Check.due("a fourth", NONE, x.thing(1, 3));
        for (int k : new int[] {2, 7, 8, 9, MAX}) {
            Check.due("thing(" + k + ", 0)", NONE, x.thing(k, 0));
        }
        Check.due("of an empty message", NONE, new FlagHoists().thing(0, 0));
        Check.due("it can not be MADE", NONE, Check.with("p3;kabcd;", 0).thing(0, 0));
    }

    private static void thingBad() {
        FlagHoists x = Check.with("ka;", 0);
        for (int below : new int[] {-1, -2, -9, MIN}) {
            Check.due("thing(" + below + ", 0)", BAD, x.thing(below, 0));
            Check.due("thing(0, " + below + ")", BAD, x.thing(0, below));
            Check.due("thing(1, " + below + ")", BAD, x.thing(1, below));
            Check.due("thing(" + below + ", " + below + ")", BAD, x.thing(below, below));
            Check.due("of none", BAD, new FlagHoists().thing(0, below));
            Check.due("not MADE", BAD, Check.with("p3;kabcd;", 0).thing(0, below));
        }
    }
}
