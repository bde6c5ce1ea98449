/** Promises 18 and 19: told, meanings; and the farthest distance (count(4) of promise 25). */
public final class AfarTest {
    private static final int BAD = -1, NONE = -9;

    public static void main(String[] args) {
        flagsFromAfar();
        codesFromAfar();
        toldRefused();
        meanings();
        farthest();
        Check.end();
    }

    private static void both(FlagHoists x, int s, int other, int distance, int want) {
        Check.due("told(" + s + ", " + other + ", " + distance + ")", want, x.told(s, other, distance));
        Check.due("told(" + other + ", " + s + ", " + distance + ")", want, x.told(other, s, distance));
    }

    private static void flagsFromAfar() {
        // a and b of one COLOUR and SIZE 3; c of it, SIZE 6; d of another one
        FlagHoists x = Check.booked("fa1 3;fb1 3;fc1 6;fd2 3;ka;kb;kc;kd;");
        for (int distance = 1; distance <= 9; distance++) {
            both(x, 0, 0, distance, 1);
            both(x, 0, 1, distance, distance > 3 ? 1 : 0);
            both(x, 0, 2, distance, distance > 6 ? 1 : 0);
            both(x, 0, 3, distance, 0);
        }
        FlagHoists clear = Check.booked("fa1 9;fb1 8;ka;kb;");
        both(clear, 0, 1, 9, 0);
        // b's own COLOUR is 1, and c's is told as 1
        FlagHoists own = Check.booked("fc1 5;kb;kc;");
        both(own, 0, 1, 5, 0);
        both(own, 0, 1, 6, 1);
    }

    private static void codesFromAfar() {
        FlagHoists x = Check.booked("fa1 3;fb1 3;fc1 6;kab;kba;kaa;ka;kcab;kac;kbaab;kabba;");
        both(x, 0, 1, 3, 0);
        both(x, 0, 1, 4, 1);
        both(x, 0, 2, 4, 1);
        both(x, 0, 3, 9, 0);
        both(x, 0, 4, 9, 0);
        both(x, 0, 5, 6, 0);
        both(x, 0, 5, 7, 1);
        both(x, 6, 7, 4, 1);
        both(x, 6, 7, 3, 0);
    }

    private static void toldRefused() {
        FlagHoists x = Check.booked("ka;kb;");
        Check.due("told(2, 0, 1)", BAD, x.told(2, 0, 1));
        Check.due("told(-1, 0, 1)", BAD, x.told(-1, 0, 1));
        Check.due("told(0, 2, 1)", BAD, x.told(0, 2, 1));
        Check.due("told(0, -1, 1)", BAD, x.told(0, -1, 1));
        Check.due("told(0, 0, 0)", BAD, x.told(0, 0, 0));
        Check.due("told(0, 0, 10)", BAD, x.told(0, 0, 10));
        Check.due("told(0, 0, MIN)", BAD, x.told(0, 0, Integer.MIN_VALUE));
        Check.due("told(MAX, MAX, MAX)", BAD, x.told(Integer.MAX_VALUE, Integer.MAX_VALUE, Integer.MAX_VALUE));
    }

    private static void meanings() {
        FlagHoists x = Check.booked("p7;fa1 3;fb1 3;fc1 6;fd2 4;fe2 4;ka;kb;kc;kd;ke;kab;");
        Check.put(x, 0, 3, 2, 1, 5);
        // a d c b, and ab
        Check.cut("two hoists", x, 4, 1);
        int[] first = {1, 1, 1, 4, 8, 8, 54, 54, 54};
        for (int distance = 1; distance <= 9; distance++) {
            Check.due("meanings(0, " + distance + ")", first[distance - 1], x.meanings(0, distance));
            Check.due("meanings(1, " + distance + ")", 1, x.meanings(1, distance));
        }
        Check.due("meanings(2, 1)", NONE, x.meanings(2, 1));
        Check.due("meanings(MAX, 9)", NONE, x.meanings(Integer.MAX_VALUE, 9));
        Check.due("meanings(-1, 1)", BAD, x.meanings(-1, 1));
        Check.due("meanings(0, 0)", BAD, x.meanings(0, 0));
        Check.due("meanings(0, 10)", BAD, x.meanings(0, 10));
        Check.due("BAD ahead of NONE", BAD, x.meanings(2, 10));
        Check.due("BAD ahead of NONE", BAD, x.meanings(2, Integer.MIN_VALUE));
        most();
    }

    private static void most() {
        FlagHoists x = Check.booked("p7;fb0 1;fc0 1;fd0 1;fe0 1;ff0 1;fg0 1;fh0 1;fa0 1;ka;kb;kc;kd;ke;kf;kg;kh;");
        Check.put(x, 0, 1, 2, 3);
        Check.due("eight to the fourth", 4096, x.meanings(0, 2));
        Check.due("one", 1, x.meanings(0, 1));
    }

    private static void farthest() {
        FlagHoists x = Check.booked("p3;fa1 3;fb1 4;fc2 7;fd2 8;ka;kb;kc;kd;kh;");
        Check.due("an empty message", 9, x.count(4));
        Check.put(x, 4);
        Check.due("h alone", 9, x.count(4));
        Check.put(x, 2);
        Check.due("c and d are not told apart at 9", 8, x.count(4));
        Check.put(x, 0);
        Check.due("a and b are not told apart at 5", 4, x.count(4));
        x.takes(1);
        Check.due("the first hoist alone", 4, x.count(4));
        FlagHoists near = Check.booked("fa1 1;fb1 1;ka;kb;");
        Check.put(near, 0);
        Check.due("1", 1, near.count(4));
        FlagHoists others = Check.booked("fa1 1;fb1 1;ka;kb;kcc;");
        Check.put(others, 2);
        Check.due("what others of the book are confused is nothing to it", 9, others.count(4));
    }
}
