/** The edges of the text that tells the book: what the document says of it ahead of the promises. */
final class TextEdges {
    private static final int NONE = -9;
    private static final String TEN = "ka;kb;kc;kd;ke;kf;kg;kh;kaa;kbb;";

    private TextEdges() {
    }

    static void all(Edges edges) {
        edges.edge(0, "7; its own number, a 0, at first)", TextEdges::colours);
        edges.edge(0, "and a SIZE (1 .. 9; 5 at first).", TextEdges::sizes);
        edges.edge(0, "THE BOOK: SENTENCES 0, 1, .. (10 at most),", TextEdges::tenSentences);
        edges.edge(0, "each with a CODE of 1 to 4 FLAGS' letters,", TextEdges::codeLengths);
        edges.edge(0, "no two alike.", TextEdges::noTwoAlike);
        edges.edge(0, "PLACES (3 .. 7; 5 at first):", TextEdges::placesTold);
        edges.edge(0, "how many things one hoist holds at most.", TextEdges::placesHold);
        edges.edge(0, "They are a text (120 letters at most), told letter by letter,", TextEdges::mostLetters);
        edges.edge(0, "blanks (32) between TOKENS;", TextEdges::blanks);
        edges.edge(0, "ITEMS, each ended by ; :", TextEdges::itemsEnd);
        edges.edge(0, "p N (PLACES; once at most) ;", TextEdges::pItem);
        edges.edge(0, "f X C S (COLOUR, SIZE of a FLAG) ;", TextEdges::fItem);
        edges.edge(0, "k and 1 to 4 FLAGS (the next SENTENCE).", TextEdges::kItem);
        edges.edge(0, "TOKENS are the letters p, f, k, a .. h, NUMBERS and ; .", TextEdges::tokens);
        edges.edge(0, "FAULT: the place of the first letter of the first TOKEN that can't stand there", TextEdges::firstFault);
        edges.edge(0, "(p again,", TextEdges::pAgain);
        edges.edge(0, "an eleventh k,", TextEdges::eleventhK);
        edges.edge(0, "a fifth FLAG of a CODE,", TextEdges::fifthFlag);
        edges.edge(0, "; behind a CODE that there is already,", TextEdges::codeAlready);
        edges.edge(0, "a NUMBER beyond what it may be, too);", TextEdges::numberBeyond);
        edges.edge(0, "of any other letter,", TextEdges::otherLetters);
        edges.edge(0, "a NUMBER above 9", TextEdges::numberAboveNine);
        edges.edge(0, "or with a 0 ahead of others, that TOKEN's;", TextEdges::zeroAhead);
        edges.edge(0, "the text's length, if it ends too early.", TextEdges::endsTooEarly);
        edges.edge(0, "(f is head and FLAG: behind k, and as X, the FLAG.", TextEdges::headAndFlag);
        edges.edge(0, "What is told again is as told last.)", TextEdges::toldAgain);
    }

    private static char letter(int f) {
        return (char) ('a' + f);
    }

    private static void colours() {
        FlagHoists fresh = new FlagHoists();
        for (int f = 0; f < 8; f++) {
            Check.due("flag(" + f + ", 0) at first", f, fresh.flag(f, 0));
            for (int colour = 0; colour <= 7; colour++) {
                FlagHoists x = Check.booked("f" + letter(f) + colour + " 5;");
                Check.due("COLOUR of " + letter(f), colour, x.flag(f, 0));
                Check.due("COLOUR of another one", (f + 1) % 8, x.flag((f + 1) % 8, 0));
            }
            Check.fault("f" + letter(f) + "8 5;", 2);
            Check.fault("f" + letter(f) + "9 5;", 2);
        }
    }

    private static void sizes() {
        FlagHoists fresh = new FlagHoists();
        for (int f = 0; f < 8; f++) {
            Check.due("flag(" + f + ", 1) at first", 5, fresh.flag(f, 1));
            for (int size = 1; size <= 9; size++) {
                FlagHoists x = Check.booked("f" + letter(f) + "3 " + size + ";");
                Check.due("SIZE of " + letter(f), size, x.flag(f, 1));
                Check.due("SIZE of another one", 5, x.flag((f + 1) % 8, 1));
            }
            Check.fault("f" + letter(f) + "3 0;", 4);
            Check.fault("f" + letter(f) + "3 10;", 4);
        }
    }

    private static void tenSentences() {
        Check.due("none", 0, Check.booked("p5;").count(0));
        Check.due("one", 1, Check.booked("ka;").count(0));
        FlagHoists x = Check.booked(TEN);
        Check.due("ten", 10, x.count(0));
        Check.due("code(9, 1)", 1, x.code(9, 1));
        Check.due("code(10, 0)", -1, x.code(10, 0));
        Check.due("puts of the tenth", 1, x.puts(0, 9));
        Check.due("puts of an eleventh", -1, x.puts(0, 10));
        Check.fault(TEN + "kcc;", TEN.length());
    }

    private static void codeLengths() {
        Check.fault("k;", 1);
        String[] codes = {"a", "ab", "abc", "abcd", "hhhh", "h"};
        for (String code : codes) {
            FlagHoists x = Check.booked("k" + code + ";");
            Check.due("length of " + code, code.length(), x.code(0, -1));
            for (int i = 0; i < code.length(); i++) {
                Check.due("letter " + i + " of " + code, code.charAt(i) - 'a', x.code(0, i));
            }
            Check.due("behind " + code, NONE, x.code(0, code.length()));
        }
        Check.fault("kabcde;", 5);
    }

    private static void noTwoAlike() {
        Check.text("ka;kaa;kaaa;kaaaa;", 4);
        Check.text("kab;kba;kabc;kcba;kacb;", 5);
        Check.fault("kh;kh;", 5);
        Check.fault("kaaaa;kaaaa;", 11);
        Check.fault("kabcd;k a b c d ;", 16);
        // alike to the first of nine, and to the last of them
        Check.fault("ka;kb;kc;kd;ke;kf;kg;kh;kaa;ka;", 30);
        Check.fault("ka;kb;kc;kd;ke;kf;kg;kh;kaa;kaa;", 31);
    }

    private static void placesTold() {
        Check.due("at first", 5, new FlagHoists().count(2));
        for (int n = 0; n <= 9; n++) {
            if (n < 3 || n > 7) {
                Check.fault("p" + n + ";", 1);
            } else {
                Check.due("p" + n, n, Check.booked("p" + n + ";").count(2));
            }
        }
        FlagHoists x = Check.booked("p7;ka;");
        x.places(3);
        Check.due("a book without p", 1, Check.read(x, "ka;"));
        Check.due("as at first", 5, x.count(2));
    }

    private static void placesHold() {
        // two codes and a tack that fill a hoist of 3, 4, .. 7
        String[] pairs = {"ka;kb;", "kab;kc;", "kab;kcd;", "kabc;kde;", "kabc;kdef;"};
        for (int n = 3; n <= 7; n++) {
            FlagHoists x = Check.with("p" + n + ";" + pairs[n - 3], 0, 1);
            Check.due("one hoist of " + n, n, x.hoist(0, 2));
            Check.cut("it holds both", x, 2);
            if (n > 3) {
                x.places(n - 1);
                Check.cut("a place less", x, 1, 1);
            }
        }
    }

    private static String blanks(int n) {
        return " ".repeat(n);
    }

    private static void mostLetters() {
        String full = TEN + blanks(120 - TEN.length());
        Check.text(full, 10);
        String late = blanks(120 - TEN.length()) + TEN;
        Check.text(late, 10);
        FlagHoists x = new FlagHoists();
        Check.type(x, blanks(118) + "ka");
        Check.due("the 121st", -3, x.type(';'));
        Check.due("its ; did not come to it", -130, x.book());
        Check.due("120 letters still", 120, x.count(8));
    }

    private static void blanks() {
        Check.text("", 0);
        Check.text(" ", 0);
        Check.text(blanks(120), 0);
        Check.text("p3;fa1 2;kab;", 3);
        Check.text("p 3 ; f a 1 2 ; k a b ;", 3);
        Check.text("   p   3   ;   f   a   1   2   ;   k   a   b   ;   ", 3);
        FlagHoists x = Check.booked(" f  h  7  9  ;  k  h  a  ; ");
        Check.due("COLOUR", 7, x.flag(7, 0));
        Check.due("SIZE", 9, x.flag(7, 1));
        Check.due("CODE", 2, x.code(0, -1));
        // what else could be taken for a blank
        for (int other : new int[] {0, 9, 10, 11, 12, 13, 31, 33, 95, 127, 160, 255}) {
            Check.fault("ka" + (char) other + ";", 2);
            Check.fault((char) other + "ka;", 0);
            Check.fault("ka;" + (char) other, 3);
        }
    }

    private static void itemsEnd() {
        Check.fault("p5", 2);
        Check.fault("p5ka;", 2);
        Check.fault("p5 ka;", 3);
        Check.fault("fa1 1ka;", 5);
        Check.fault("kap5;", 2);
        Check.fault("ka", 2);
        Check.fault(";", 0);
        Check.fault("ka;;", 3);
        Check.fault("p;5;", 1);
        Check.text("ka;kb;", 2);
    }

    private static void pItem() {
        Check.text("ka;p7;", 2);
        Check.text("ka;", 1);
        Check.fault("p", 1);
        Check.fault("p;", 1);
        Check.fault("pa;", 1);
        Check.fault("pp5;", 1);
        Check.fault("p5 5;", 3);
        Check.fault("p5a;", 2);
        Check.fault("p5;ka;p6;", 6);
    }

    private static void fItem() {
        FlagHoists x = Check.booked("fd6 2;");
        Check.due("COLOUR comes first", 6, x.flag(3, 0));
        Check.due("SIZE comes then", 2, x.flag(3, 1));
        Check.fault("f;", 1);
        Check.fault("f1 2;", 1);
        Check.fault("fd;", 2);
        Check.fault("fd6;", 3);
        Check.fault("fd6 2 2;", 6);
        Check.fault("fde6 2;", 2);
        Check.fault("fi6 2;", 1);
    }

    private static void kItem() {
        FlagHoists x = Check.booked("kd;p4;kca;fa1 1;kb;");
        int[] first = {3, 2, 1};
        for (int s = 0; s < first.length; s++) {
            Check.due("the next SENTENCE is " + s, first[s], x.code(s, 0));
        }
        Check.fault("k;", 1);
        Check.fault("k1;", 1);
        Check.fault("kk;", 1);
        Check.fault("kp;", 1);
        Check.fault("kabcde;", 5);
    }

    /** Each letter of 0 .. 255 behind a head: a blank is no TOKEN, those told go on or end an ITEM, a digit may lengthen a NUMBER. */
    private static void anyBehind(String head, String going, String ending, int lengthened) {
        for (int letter = 0; letter <= 255; letter++) {
            String text = head + (char) letter;
            boolean empty = head.trim().isEmpty();
            if (letter == 32) {
                Check.text(text, empty ? 0 : -10 - text.length());
            } else if (going.indexOf(letter) >= 0) {
                Check.fault(text, text.length());
            } else if (ending.indexOf(letter) >= 0) {
                Check.text(text, 1);
            } else if (lengthened >= 0 && letter >= '0' && letter <= '9') {
                Check.fault(text, lengthened);
            } else {
                Check.fault(text, head.length());
            }
        }
    }

    private static void tokens() {
        anyBehind("", "pfk", "", -1);
        anyBehind("   ", "pfk", "", -1);
        anyBehind("p", "34567", "", -1);
        anyBehind("p5", "", ";", 1);
        anyBehind("p5 ", "", ";", -1);
        anyBehind("f", "abcdefgh", "", -1);
        anyBehind("fa", "01234567", "", -1);
        anyBehind("fa1", "", "", 2);
        anyBehind("fa1 ", "123456789", "", -1);
        anyBehind("fa1 1", "", ";", 4);
        anyBehind("k", "abcdefgh", "", -1);
        anyBehind("ka", "abcdefgh", ";", -1);
        anyBehind("kabc", "abcdefgh", ";", -1);
        anyBehind("kabcd", "", ";", -1);
    }

    private static void firstFault() {
        Check.fault("a", 0);
        Check.fault("     a", 5);
        Check.fault("   p   a", 7);
        Check.fault("ka; 5", 4);
        // the first of several
        Check.fault("p2;k1;q", 1);
        Check.fault("q p2;", 0);
        Check.fault("ka;ka;p8;", 5);
        Check.fault("p8 q", 1);
        // a wrong letter behind comes too late, and one ahead in an ITEM comes first
        Check.fault("k;q", 1);
        Check.fault("kaq;;", 2);
        // a NUMBER of many letters: its first one
        Check.fault("p   123456;", 4);
    }

    private static void pAgain() {
        Check.fault("p5;p5;", 3);
        Check.fault("p3;p4;", 3);
        Check.fault("p5; p", 4);
        Check.fault("p5;ka;fa1 1;p5;", 12);
        // a text that was refused, or read, is no p for the next one
        FlagHoists x = new FlagHoists();
        Check.due("refused", -13, Check.read(x, "p6;p6;"));
        Check.due("read", 1, Check.read(x, "p6;"));
        Check.due("read again", 1, Check.read(x, "p7;"));
        Check.due("PLACES", 7, x.count(2));
    }

    private static void eleventhK() {
        Check.text(TEN, 10);
        Check.fault(TEN + "kcc;", 32);
        Check.fault(TEN + "k", 32);
        Check.fault(TEN + "  kq", 34);
        Check.fault(TEN + "ka;", 32);
        Check.text(TEN + "p4;fa1 1;", 12);
        FlagHoists x = new FlagHoists();
        Check.due("refused", -42, Check.read(x, TEN + "kcc;"));
        Check.due("ten of them again", 10, Check.read(x, TEN));
    }

    private static void fifthFlag() {
        Check.text("kabcd;", 1);
        Check.fault("kabcde;", 5);
        Check.fault("kaaaaa;", 5);
        Check.fault("kabcd   e;", 8);
        Check.fault("kabcdeq;", 5);
        // though such a CODE is there already
        Check.fault("kabcd;kabcde;", 11);
    }

    private static void codeAlready() {
        Check.fault("ka;ka;", 5);
        Check.fault("ka;ka  ;", 7);
        Check.text("ka;kab;", 2);
        Check.text("kab;ka;", 2);
        Check.fault("kab;ka;kab;", 10);
        // it is the ; that can't stand there, nothing ahead of it
        Check.fault("ka;ka", 5);
        Check.fault("ka;kap", 5);
        // a CODE of the book that is known now is none of the one that is told
        FlagHoists x = Check.booked("ka;kb;");
        Check.due("the same text anew", 2, Check.read(x, "ka;kb;"));
    }

    private static void numberBeyond() {
        for (int n : new int[] {0, 1, 2, 8, 9}) {
            Check.fault("p" + n + ";", 1);
            Check.fault("p" + n, 1);
        }
        for (int n : new int[] {8, 9}) {
            Check.fault("fa" + n + " 1;", 2);
            Check.fault("fa" + n, 2);
        }
        Check.fault("fa1 0;", 4);
        Check.fault("fa1 0", 4);
        Check.text("p3;", 1);
        Check.text("p7;", 1);
        Check.text("fa0 1;", 1);
        Check.text("fa7 9;", 1);
    }

    private static void otherLetters() {
        String told = "pfkabcdefgh0123456789; ";
        String[] heads = {"", "p", "p5", "p5;", "f", "fa", "fa1 ", "fa1 1", "k", "ka", "kabcd", "kabcd "};
        for (String head : heads) {
            for (int letter = 0; letter <= 255; letter++) {
                if (told.indexOf(letter) < 0) {
                    Check.fault(head + (char) letter, head.length());
                }
            }
        }
        // capitals, what stands beside the digits and the FLAGS, signs ahead of NUMBERS
        Check.fault("P5;", 0);
        Check.fault("kA;", 1);
        Check.fault("p-5;", 1);
        Check.fault("p+5;", 1);
        Check.fault("p/;", 1);
        Check.fault("fa1 :;", 4);
        Check.fault("k`;", 1);
        Check.fault("ki;", 1);
    }

    private static void numberAboveNine() {
        Check.text("fa7 9;", 1);
        Check.fault("p10;", 1);
        Check.fault("p33;", 1);
        Check.fault("fa10 1;", 2);
        Check.fault("fa13;", 2);
        Check.fault("fa1 10;", 4);
        Check.fault("fa1 99;", 4);
        Check.fault("k10;", 1);
        Check.fault("10", 0);
        // so long that it is no int any more, or one that is 5 again
        Check.fault("p4294967301;", 1);
        Check.fault("p18446744073709551621;", 1);
        Check.fault("p" + "9".repeat(119), 1);
        Check.fault("fa1 4294967301;", 4);
    }

    private static void zeroAhead() {
        Check.text("fa0 1;", 1);
        Check.fault("p05;", 1);
        Check.fault("p005;", 1);
        Check.fault("fa00 1;", 2);
        Check.fault("fa01 1;", 2);
        Check.fault("fa1 01;", 4);
        Check.fault("fa1 00;", 4);
        Check.fault("p" + "0".repeat(118) + "5", 1);
        // a blank between them makes them two NUMBERS
        Check.text("fa0 5;", 1);
        Check.fault("p0 5;", 1);
    }

    private static void endsTooEarly() {
        String[] wholes = {"p5;", "fa1 1;", "kabcd;", "ka;kb;"};
        for (String whole : wholes) {
            for (int length = 1; length < whole.length(); length++) {
                String text = whole.substring(0, length);
                if (!text.endsWith(";")) {
                    Check.fault(text, length);
                    Check.fault(text + "   ", length + 3);
                    Check.fault("  " + text, length + 2);
                }
            }
        }
        Check.fault(blanks(119) + "k", 120);
        Check.fault("k" + blanks(119), 120);
    }

    private static void headAndFlag() {
        FlagHoists x = Check.booked("ff2 3;kf;kff;kfff;kffff;kaf;");
        Check.due("f's COLOUR", 2, x.flag(5, 0));
        Check.due("f's SIZE", 3, x.flag(5, 1));
        Check.due("five SENTENCES", 5, x.count(0));
        Check.due("f", 5, x.code(0, 0));
        Check.due("ffff", 4, x.code(3, -1));
        Check.due("af", 5, x.code(4, 1));
        Check.fault("kfa1 1;", 3);
        Check.fault("kffa1 1;", 4);
        Check.fault("fff1 1;", 2);
        Check.fault("kfffff;", 5);
        Check.fault("pf;", 1);
        // k and p are no FLAGS
        Check.fault("fk1 1;", 1);
        Check.fault("fp1 1;", 1);
    }

    private static void toldAgain() {
        FlagHoists x = Check.booked("fa1 2;fb3 3;fa4 6;");
        Check.due("three ITEMS; COLOUR of a", 4, x.flag(0, 0));
        Check.due("SIZE of a", 6, x.flag(0, 1));
        Check.due("COLOUR of b", 3, x.flag(1, 0));
        FlagHoists same = Check.booked("fa4 6;fa1 2;fa1 2;");
        Check.due("COLOUR of a", 1, same.flag(0, 0));
        Check.due("SIZE of a", 2, same.flag(0, 1));
        Check.text("fa1 2;fa1 2;fa1 2;", 3);
    }
}
