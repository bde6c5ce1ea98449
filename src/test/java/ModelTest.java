import java.util.Random;

/** Random runs of calls: each answer is held against the model's. The seeds are fixed, so a run can be had again. */
public final class ModelTest {
    private static final int RUNS = 1500;
    private static final int CALLS = 512;
    /** So many calls one step of a run makes at most, but for those that tell a book. */
    private static final int STEP = 9;
    private static final int[] WILD = {Integer.MIN_VALUE, -10, -2, -1, 8, 9, 10, 11, 255, 256, Integer.MAX_VALUE};

    private final Random random;
    private final FlagHoists x = new FlagHoists();
    private final Model model = new Model();
    private final long seed;
    private int calls = 0;

    private ModelTest(long seed) {
        this.seed = seed;
        random = new Random(seed);
    }

    public static void main(String[] args) {
        for (long seed = 0; seed < RUNS; seed++) {
            new ModelTest(seed).run();
        }
        Check.end();
    }

    private void run() {
        while (calls <= CALLS - STEP) {
            if (calls == 0 || random.nextInt(120) == 0) {
                tellBook();
            } else {
                callAny();
            }
        }
    }

    private void due(String call, int want, int got) {
        calls++;
        Check.due("seed " + seed + ", call " + calls + ": " + call, want, got);
    }

    /** A number of 0 .. high, seldom another one. */
    private int number(int high) {
        if (random.nextInt(25) == 0) {
            return WILD[random.nextInt(WILD.length)];
        }
        return random.nextInt(high + 1);
    }

    private void typeAll(String text) {
        for (int i = 0; i < text.length(); i++) {
            int letter = text.charAt(i);
            due("type(" + letter + ")", model.type(letter), x.type(letter));
        }
    }

    private void tellBook() {
        String text = random.nextInt(6) == 0 ? spoiled(goodText()) : goodText();
        if (calls + text.length() + 2 > CALLS) {
            return;
        }
        due("clear()", model.clear(), x.clear());
        typeAll(text);
        due("book()", model.book(), x.book());
    }

    private String blank() {
        return random.nextInt(12) == 0 ? " " : "";
    }

    private String goodText() {
        StringBuilder text = new StringBuilder();
        int letters = 1 + random.nextInt(8);
        if (random.nextInt(2) == 0) {
            text.append("p").append(blank()).append(3 + random.nextInt(5)).append(";");
        }
        int flags = random.nextInt(6);
        int colours = 1 + random.nextInt(8);
        for (int i = 0; i < flags; i++) {
            text.append("f").append((char) ('a' + random.nextInt(letters))).append(blank());
            text.append(random.nextInt(colours)).append(" ").append(1 + random.nextInt(9)).append(blank()).append(";");
        }
        java.util.Set<String> codes = new java.util.LinkedHashSet<>();
        int sentences = random.nextInt(10) == 0 ? 11 : 2 + random.nextInt(9);
        for (int i = 0; i < 3 * sentences && codes.size() < sentences; i++) {
            StringBuilder code = new StringBuilder();
            int length = 1 + random.nextInt(random.nextInt(3) == 0 ? 4 : 2);
            for (int j = 0; j < length; j++) {
                code.append((char) ('a' + random.nextInt(letters)));
            }
            codes.add(code.toString());
        }
        for (String code : codes) {
            text.append(blank()).append("k").append(code).append(blank()).append(";");
        }
        return text.toString();
    }

    private String spoiled(String text) {
        String signs = "pfkabcdefgh0123456789; \tiqz\u0000\u00ff";
        StringBuilder spoiled = new StringBuilder(text);
        int at = random.nextInt(spoiled.length() + 1);
        char sign = signs.charAt(random.nextInt(signs.length()));
        switch (random.nextInt(4)) {
            case 0 -> spoiled.insert(at, sign);
            case 1 -> spoiled.setLength(at);
            case 2 -> spoiled.replace(at, Math.min(at + 1, spoiled.length()), String.valueOf(sign));
            default -> spoiled.delete(at, Math.min(at + 1, spoiled.length()));
        }
        return spoiled.toString();
    }

    private void callAny() {
        int a = number(7);
        switch (random.nextInt(30)) {
            case 0 -> typeAny();
            case 1, 2, 3, 4, 5 -> puts();
            case 6, 7 -> takes();
            case 8 -> places();
            case 9, 10, 11 -> due("sends()", model.sends(), x.sends());
            case 12, 13, 14 -> answers();
            case 15, 16 -> due("undo()", model.undo(), x.undo());
            case 17 -> due("message(" + a + ")", model.message(a), x.message(a));
            case 18, 19 -> hoist();
            case 20 -> thing();
            case 21 -> told();
            case 22 -> meanings();
            case 23 -> sees();
            case 24 -> due("unseen()", model.unseen(), x.unseen());
            case 25 -> images();
            case 26 -> ofBook();
            case 27 -> forget();
            default -> counts();
        }
    }

    private void typeAny() {
        int letter = random.nextInt(8) == 0 ? WILD[random.nextInt(WILD.length)] : random.nextInt(256);
        due("type(" + letter + ")", model.type(letter), x.type(letter));
    }

    private void puts() {
        int place = number(Math.max(0, model.count(1)));
        int s = number(Math.max(0, model.count(0) - 1));
        due("puts(" + place + ", " + s + ")", model.puts(place, s), x.puts(place, s));
    }

    private void takes() {
        int place = number(Math.max(0, model.count(1) - 1));
        due("takes(" + place + ")", model.takes(place), x.takes(place));
    }

    private void places() {
        int n = 3 + number(4);
        due("places(" + n + ")", model.places(n), x.places(n));
    }

    private void answers() {
        int how = number(1);
        due("answers(" + how + ")", model.answers(how), x.answers(how));
    }

    private void hoist() {
        int k = number(3);
        int what = number(3);
        due("hoist(" + k + ", " + what + ")", model.hoist(k, what), x.hoist(k, what));
    }

    private void thing() {
        int k = number(3);
        for (int i = 0; i < 8; i++) {
            due("thing(" + k + ", " + i + ")", model.thing(k, i), x.thing(k, i));
        }
        int i = number(7);
        due("thing(" + k + ", " + i + ")", model.thing(k, i), x.thing(k, i));
    }

    private void told() {
        int s = number(Math.max(0, model.count(0) - 1));
        int other = number(Math.max(0, model.count(0) - 1));
        int distance = 1 + number(8);
        due("told(" + s + ", " + other + ", " + distance + ")",
                model.told(s, other, distance), x.told(s, other, distance));
    }

    private void meanings() {
        int k = number(3);
        int distance = 1 + number(8);
        due("meanings(" + k + ", " + distance + ")", model.meanings(k, distance), x.meanings(k, distance));
    }

    /** What would be so with some place gone is seen mostly, so that unseen has something to tell. */
    private void sees() {
        int k = number(3);
        int n = random.nextInt(4) == 0 ? number(7) : Math.max(0, model.hoist(Math.max(0, k), 2));
        due("sees(" + k + ", " + n + ")", model.sees(k, n), x.sees(k, n));
        due("unseen()", model.unseen(), x.unseen());
    }

    private void forget() {
        due("forget()", model.forget(), x.forget());
    }

    private void images() {
        int image = number(1);
        if (random.nextInt(3) > 0) {
            due("keep(" + image + ")", model.keep(image), x.keep(image));
        } else {
            due("back(" + image + ")", model.back(image), x.back(image));
        }
    }

    private void ofBook() {
        int a = number(10);
        int b = number(4) - 1;
        due("code(" + a + ", " + b + ")", model.code(a, b), x.code(a, b));
        due("sorted(" + a + ")", model.sorted(a), x.sorted(a));
        due("first(" + a + ")", model.first(a), x.first(a));
        due("flag(" + a + ", " + b + ")", model.flag(a, b), x.flag(a, b));
    }

    private void counts() {
        int what = number(9);
        due("count(" + what + ")", model.count(what), x.count(what));
    }
}
