/** Promises 1 to 8: a new object, type, clear, book, flag, code, sorted, first. */
public final class BookTest {
    private static final int BAD = -1, FULL = -3, NONE = -9;

    public static void main(String[] args) {
        newObject();
        typing();
        clearing();
        goodTexts();
        faults();
        faultChangesNothing();
        readAnew();
        flags();
        codes();
        order();
        firstOfLetter();
        Check.end();
    }

    private static void newObject() {
        FlagHoists x = new FlagHoists();
        int[] due = {0, 0, 5, 0, 9, NONE, 0, 0, 0, 0};
        for (int what = 0; what < due.length; what++) {
            Check.due("new: count(" + what + ")", due[what], x.count(what));
        }
        for (int f = 0; f < 8; f++) {
            Check.due("new: flag(" + f + ", 0)", f, x.flag(f, 0));
            Check.due("new: flag(" + f + ", 1)", 5, x.flag(f, 1));
        }
        Check.due("new: code", BAD, x.code(0, -1));
        Check.due("new: sorted", NONE, x.sorted(0));
        Check.due("new: first", NONE, x.first(0));
        Check.due("new: message", BAD, x.message(0));
        Check.due("new: undo", -2, x.undo());
        Check.due("new: back(0)", -2, x.back(0));
        Check.due("new: back(1)", -2, x.back(1));
        Check.due("new: answers", -2, x.answers(0));
    }

    private static void typing() {
        FlagHoists x = new FlagHoists();
        Check.due("type(-1)", BAD, x.type(-1));
        Check.due("type(256)", BAD, x.type(256));
        Check.due("type(MIN)", BAD, x.type(Integer.MIN_VALUE));
        Check.due("type(MAX)", BAD, x.type(Integer.MAX_VALUE));
        Check.due("count(8)", 0, x.count(8));
        for (int i = 1; i <= 120; i++) {
            Check.due("type the " + i + "th", i, x.type(i % 2 == 0 ? 0 : 255));
        }
        Check.due("type the 121st", FULL, x.type(32));
        Check.due("BAD comes ahead of FULL", BAD, x.type(256));
        Check.due("count(8)", 120, x.count(8));
    }

    private static void clearing() {
        FlagHoists x = new FlagHoists();
        Check.due("clear of nothing", 0, x.clear());
        Check.type(x, "p7;");
        Check.due("clear", 3, x.clear());
        Check.due("count(8)", 0, x.count(8));
        Check.due("type", 1, x.type(112));
        x.clear();
        Check.due("book of a cleared text", 0, x.book());
        Check.due("PLACES", 5, x.count(2));
    }

    private static void goodTexts() {
        Check.text("", 0);
        Check.text("   ", 0);
        Check.text("p3;", 1);
        Check.text("p7;", 1);
        Check.text("  p  7  ;  ", 1);
        Check.text("fa0 1;fh7 9;", 2);
        Check.text("ff7 9;kffff;", 2);
        Check.text("ka;kb;kab;kba;kabcd;kh;kaaaa;kbbbb;kcccc;kdddd;", 10);
        Check.text("ka;p4;fa1 1;", 3);
        Check.text("fa1 1;fa1 1;", 2);
        Check.text("k a ; k  a a ;", 2);
        StringBuilder blanks = new StringBuilder();
        for (int i = 0; i < 117; i++) {
            blanks.append(' ');
        }
        Check.text(blanks + "ka;", 1);
        Check.text("ka;" + blanks, 1);
    }

    private static void faults() {
        // heads
        Check.fault(";", 0);
        Check.fault("a", 0);
        Check.fault("  h;", 2);
        Check.fault("5;", 0);
        Check.fault("ka;;", 3);
        Check.fault("ka;b;", 3);
        // other letters
        Check.fault("q", 0);
        Check.fault("i", 0);
        Check.fault("P5;", 0);
        Check.fault("K", 0);
        Check.fault("\tp5;", 0);
        Check.fault("ka\u0000;", 2);
        Check.fault("ka\u00ff;", 2);
        Check.fault("p:;", 1);
        Check.fault("p/;", 1);
        Check.fault("ki;", 1);
        Check.fault("k`;", 1);
        Check.fault("p5 ,", 3);
        // p
        Check.fault("p", 1);
        Check.fault("p  ", 3);
        Check.fault("p5", 2);
        Check.fault("p5 ", 3);
        Check.fault("p2;", 1);
        Check.fault("p8;", 1);
        Check.fault("p0;", 1);
        Check.fault("p;", 1);
        Check.fault("p a;", 2);
        Check.fault("p5 5;", 3);
        Check.fault("p55;", 1);
        Check.fault("p05;", 1);
        Check.fault("p 10;", 2);
        Check.fault("p 00;", 2);
        Check.fault("p99999999999999999999;", 1);
        Check.fault("p5;p5;", 3);
        Check.fault("p5;ka; p", 7);
        Check.fault("p4294967301;", 1);
        Check.fault("p59;", 1);
        Check.fault("p95;", 1);
        // f
        Check.fault("f", 1);
        Check.fault("fa", 2);
        Check.fault("fa1", 3);
        Check.fault("fa1 ", 4);
        Check.fault("fa1 2", 5);
        Check.fault("f;", 1);
        Check.fault("f1", 1);
        Check.fault("fp1 1;", 1);
        Check.fault("fk1 1;", 1);
        Check.fault("fi1 1;", 1);
        Check.fault("fa8 1;", 2);
        Check.fault("fa9 1;", 2);
        Check.fault("fa11;", 2);
        Check.fault("fa1 0;", 4);
        Check.fault("fa1 10;", 4);
        Check.fault("fa1 01;", 4);
        Check.fault("fa1 99;", 4);
        Check.fault("fa1 :;", 4);
        Check.fault("fa1;", 3);
        Check.fault("fa;", 2);
        Check.fault("fab", 2);
        Check.fault("fa1 1 1;", 6);
        Check.fault("fa1 1a;", 5);
        Check.fault("fa1 1 p", 6);
        // k
        Check.fault("k", 1);
        Check.fault("ka", 2);
        Check.fault("ka ", 3);
        Check.fault("k;", 1);
        Check.fault("kk;", 1);
        Check.fault("kp;", 1);
        Check.fault("k1;", 1);
        Check.fault("ka1;", 2);
        Check.fault("kap;", 2);
        Check.fault("kak", 2);
        Check.fault("kabcda;", 5);
        Check.fault("kabcd a", 6);
        Check.fault("kabcd", 5);
        Check.fault("kabcdq", 5);
        Check.fault("ka;ka;", 5);
        Check.fault("ka;ka ;", 6);
        Check.fault("ka;ka", 5);
        Check.fault("ka;kap;", 5);
        Check.fault("kabcd;kb;kabcd;", 14);
        Check.fault("ka;kb;kc;kd;ke;kf;kg;kh;kaa;kbb;kcc;", 32);
        Check.fault("ka;kb;kc;kd;ke;kf;kg;kh;kaa;kbb; k", 33);
    }

    private static void faultChangesNothing() {
        FlagHoists x = Check.booked("p4;fa2 2;ka;kb;");
        Check.put(x, 0, 1);
        x.sends();
        x.keep(0);
        x.sees(0, 3);
        Check.due("a fault", -24, Check.read(x, "p6;fa3 3;kc;kc;"));
        Check.due("the same again, the text being there still", -24, x.book());
        int[] due = {2, 2, 4, 1, 9, 0, 0, 1, 15, 3};
        for (int what = 0; what < due.length; what++) {
            Check.due("behind a fault: count(" + what + ")", due[what], x.count(what));
        }
        Check.due("COLOUR", 2, x.flag(0, 0));
        Check.due("SIZE", 2, x.flag(0, 1));
        Check.due("CODE", 0, x.code(0, 0));
        Check.due("IMAGE", 2, x.back(0));
    }

    private static void readAnew() {
        FlagHoists x = Check.booked("p4;fa1 2;ka;kb;");
        Check.put(x, 0, 1, 0, 1);
        x.sends();
        x.answers(1);
        x.sends();
        x.keep(0);
        x.keep(1);
        x.sees(0, 3);
        Check.due("book anew", 2, Check.read(x, "fb7 9;kc;"));
        int[] due = {1, 0, 5, 0, 9, NONE, 0, 0, 0, 0};
        for (int what = 0; what < due.length; what++) {
            Check.due("read anew: count(" + what + ")", due[what], x.count(what));
        }
        Check.due("a's COLOUR as at first", 0, x.flag(0, 0));
        Check.due("a's SIZE as at first", 5, x.flag(0, 1));
        Check.due("b's COLOUR", 7, x.flag(1, 0));
        Check.due("b's SIZE", 9, x.flag(1, 1));
        Check.due("code(0, 0)", 2, x.code(0, 0));
        Check.due("code(1, 0)", BAD, x.code(1, 0));
        Check.due("back(0)", -2, x.back(0));
        Check.due("back(1)", -2, x.back(1));
        Check.due("undo", -2, x.undo());
        Check.due("an empty text", 0, x.book());
        Check.due("no SENTENCES", 0, x.count(0));
        Check.due("b's COLOUR as at first", 1, x.flag(1, 0));
    }

    private static void flags() {
        FlagHoists x = Check.booked("fa7 9;fb0 1;ff3 4;ff2 8;");
        Check.due("a's COLOUR", 7, x.flag(0, 0));
        Check.due("a's SIZE", 9, x.flag(0, 1));
        Check.due("b's COLOUR", 0, x.flag(1, 0));
        Check.due("b's SIZE", 1, x.flag(1, 1));
        Check.due("f's COLOUR, as told last", 2, x.flag(5, 0));
        Check.due("f's SIZE, as told last", 8, x.flag(5, 1));
        Check.due("h's COLOUR", 7, x.flag(7, 0));
        Check.due("flag(-1, 0)", BAD, x.flag(-1, 0));
        Check.due("flag(8, 0)", BAD, x.flag(8, 0));
        Check.due("flag(0, -1)", BAD, x.flag(0, -1));
        Check.due("flag(0, 2)", BAD, x.flag(0, 2));
        Check.due("flag(MIN, 0)", BAD, x.flag(Integer.MIN_VALUE, 0));
        Check.due("flag(0, MAX)", BAD, x.flag(0, Integer.MAX_VALUE));
    }

    private static void codes() {
        FlagHoists x = Check.booked("kh;kabcd;kfa;");
        int[][] due = {{7}, {0, 1, 2, 3}, {5, 0}};
        for (int s = 0; s < due.length; s++) {
            Check.due("code(" + s + ", -1)", due[s].length, x.code(s, -1));
            for (int i = 0; i < 6; i++) {
                Check.due("code(" + s + ", " + i + ")", i < due[s].length ? due[s][i] : NONE, x.code(s, i));
            }
            Check.due("code(" + s + ", MAX)", NONE, x.code(s, Integer.MAX_VALUE));
            Check.due("code(" + s + ", -2)", BAD, x.code(s, -2));
            Check.due("code(" + s + ", MIN)", BAD, x.code(s, Integer.MIN_VALUE));
        }
        Check.due("code(-1, 0)", BAD, x.code(-1, 0));
        Check.due("code(3, 0)", BAD, x.code(3, 0));
        Check.due("code(3, -1)", BAD, x.code(3, -1));
        Check.due("code(MAX, 0)", BAD, x.code(Integer.MAX_VALUE, 0));
    }

    private static void order() {
        FlagHoists x = Check.booked("kb;kab;ka;kabh;kaca;kh;kabc;kabca;kaa;kha;");
        // a aa ab abc abca abh aca b h ha
        int[] due = {2, 8, 1, 6, 7, 3, 4, 0, 5, 9};
        for (int k = 0; k < due.length; k++) {
            Check.due("sorted(" + k + ")", due[k], x.sorted(k));
        }
        Check.due("sorted(10)", NONE, x.sorted(10));
        Check.due("sorted(MAX)", NONE, x.sorted(Integer.MAX_VALUE));
        Check.due("sorted(-1)", BAD, x.sorted(-1));
        Check.due("sorted(MIN)", BAD, x.sorted(Integer.MIN_VALUE));
    }

    private static void firstOfLetter() {
        FlagHoists x = Check.booked("kgb;kcc;kcb;kg;kca;");
        int[] due = {4, 4, 4, 3, 3, 3, 3, NONE};
        for (int letter = 0; letter < 8; letter++) {
            Check.due("first(" + letter + ")", due[letter], x.first(letter));
        }
        Check.due("first(-1)", BAD, x.first(-1));
        Check.due("first(8)", BAD, x.first(8));
        Check.due("first(MIN)", BAD, x.first(Integer.MIN_VALUE));
    }
}
