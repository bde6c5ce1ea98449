import java.util.ArrayDeque;
import java.util.ArrayList;
import java.util.Arrays;
import java.util.Deque;
import java.util.List;
import java.util.TreeMap;

/** The document once more, slow and plain, by other means than the class: what ModelTest holds it against. */
final class Model {
    private static final int BAD = -1, STATE = -2, FULL = -3, NONE = -9;

    /** What is undone and kept. */
    private record State(List<Integer> message, int places, int understood, int times) {
    }

    private record Seen(int hoist, int things) {
    }

    private record Token(String word, int place) {
    }

    private StringBuilder text = new StringBuilder();
    private int[] colours = {0, 1, 2, 3, 4, 5, 6, 7};
    private int[] sizes = {5, 5, 5, 5, 5, 5, 5, 5};
    private List<String> codes = new ArrayList<>();
    private State now = new State(List.of(), 5, 0, 0);
    private final Deque<State> undo = new ArrayDeque<>();
    private final List<Seen> seen = new ArrayList<>();
    private final State[] images = new State[2];

    int type(int letter) {
        if (letter < 0 || letter > 255) {
            return BAD;
        }
        if (text.length() == 120) {
            return FULL;
        }
        text.append((char) letter);
        return text.length();
    }

    int clear() {
        int had = text.length();
        text = new StringBuilder();
        return had;
    }

    private List<Token> tokens() {
        List<Token> tokens = new ArrayList<>();
        java.util.regex.Matcher m = java.util.regex.Pattern.compile("[0-9]+|[^ ]", java.util.regex.Pattern.DOTALL)
                .matcher(text);
        while (m.find()) {
            tokens.add(new Token(m.group(), m.start()));
        }
        tokens.add(new Token("", text.length()));
        return tokens;
    }

    int book() {
        int[] newColours = {0, 1, 2, 3, 4, 5, 6, 7};
        int[] newSizes = {5, 5, 5, 5, 5, 5, 5, 5};
        List<String> newCodes = new ArrayList<>();
        int newPlaces = 0;
        int items = 0;
        // What stood so far in an ITEM, and what it may go on with, as patterns over the words.
        String item = "";
        for (Token token : tokens()) {
            String word = token.word();
            if (word.isEmpty()) {
                if (!item.isEmpty()) {
                    return -10 - token.place();
                }
                break;
            }
            String then = item.isEmpty() ? word : item + " " + word;
            boolean stands = then.matches("p( [3-7]( ;)?)?|f( [a-h]( [0-7]( [1-9]( ;)?)?)?)?|k( [a-h]){0,4}|k( [a-h]){1,4} ;");
            if (then.equals("p") && newPlaces != 0 || then.equals("k") && newCodes.size() == 10) {
                stands = false;
            }
            String code = then.replaceAll("[k ;]", "");
            if (then.startsWith("k") && word.equals(";") && newCodes.contains(code)) {
                stands = false;
            }
            if (!stands) {
                return -10 - token.place();
            }
            item = then;
            if (word.equals(";")) {
                items++;
                String[] words = then.split(" ");
                if (words[0].equals("p")) {
                    newPlaces = Integer.parseInt(words[1]);
                } else if (words[0].equals("k")) {
                    newCodes.add(code);
                } else {
                    newColours[words[1].charAt(0) - 'a'] = Integer.parseInt(words[2]);
                    newSizes[words[1].charAt(0) - 'a'] = Integer.parseInt(words[3]);
                }
                item = "";
            }
        }
        colours = newColours;
        sizes = newSizes;
        codes = newCodes;
        now = new State(List.of(), newPlaces == 0 ? 5 : newPlaces, 0, 0);
        undo.clear();
        seen.clear();
        Arrays.fill(images, null);
        clear();
        return items;
    }

    int flag(int f, int what) {
        if (f < 0 || f > 7 || what < 0 || what > 1) {
            return BAD;
        }
        return what == 0 ? colours[f] : sizes[f];
    }

    private boolean isSentence(int s) {
        return s >= 0 && s < codes.size();
    }

    int code(int s, int i) {
        if (!isSentence(s) || i < -1) {
            return BAD;
        }
        String code = codes.get(s);
        return i == -1 ? code.length() : i < code.length() ? code.charAt(i) - 'a' : NONE;
    }

    private TreeMap<String, Integer> inOrder() {
        TreeMap<String, Integer> order = new TreeMap<>();
        for (int s = 0; s < codes.size(); s++) {
            order.put(codes.get(s), s);
        }
        return order;
    }

    int sorted(int k) {
        if (k < 0) {
            return BAD;
        }
        List<Integer> order = new ArrayList<>(inOrder().values());
        return k < order.size() ? order.get(k) : NONE;
    }

    int first(int letter) {
        if (letter < 0 || letter > 7) {
            return BAD;
        }
        var entry = inOrder().ceilingEntry(String.valueOf((char) ('a' + letter)));
        return entry == null ? NONE : entry.getValue();
    }

    private void become(State next) {
        undo.push(now);
        if (undo.size() > 10) {
            undo.removeLast();
        }
        now = next;
    }

    int puts(int place, int s) {
        if (place < 0 || place > now.message.size() || !isSentence(s)) {
            return BAD;
        }
        if (now.message.size() == 8) {
            return FULL;
        }
        List<Integer> message = new ArrayList<>(now.message);
        message.add(place, s);
        become(new State(message, now.places, 0, 0));
        return message.size();
    }

    int takes(int place) {
        if (place < 0 || place >= now.message.size()) {
            return BAD;
        }
        List<Integer> message = new ArrayList<>(now.message);
        int s = message.remove(place);
        become(new State(message, now.places, 0, 0));
        return s;
    }

    int places(int n) {
        if (n < 3 || n > 7) {
            return BAD;
        }
        if (n == now.places) {
            return STATE;
        }
        int were = now.places;
        become(new State(now.message, n, 0, 0));
        return were;
    }

    int sends() {
        List<List<Integer>> hoists = made(now.message);
        if (now.times > 0 || hoists == null || now.understood == hoists.size()) {
            return STATE;
        }
        become(new State(now.message, now.places, now.understood, 1));
        return now.understood;
    }

    int answers(int how) {
        if (how != 0 && how != 1) {
            return BAD;
        }
        if (now.times == 0) {
            return STATE;
        }
        int times = now.times;
        if (how == 0) {
            become(new State(now.message, now.places, now.understood, times + 1));
            return times + 1;
        }
        become(new State(now.message, now.places, now.understood + 1, 0));
        return times;
    }

    int undo() {
        if (undo.isEmpty()) {
            return STATE;
        }
        now = undo.pop();
        return undo.size();
    }

    int message(int place) {
        return place < 0 || place >= now.message.size() ? BAD : now.message.get(place);
    }

    /** What a row of sentences looks like in one hoist; null: it is not lawful. */
    private List<Integer> things(List<Integer> row) {
        List<Integer> things = new ArrayList<>();
        StringBuilder letters = new StringBuilder();
        for (int s : row) {
            if (!things.isEmpty()) {
                things.add(20);
            }
            for (char letter : codes.get(s).toCharArray()) {
                if (letters.indexOf(String.valueOf(letter)) < 0) {
                    things.add(letter - 'a');
                } else {
                    int n = 1;
                    while (n <= 3 && (things.contains(10 + n) || letters.length() < n || letters.charAt(n - 1) != letter)) {
                        n++;
                    }
                    if (n > 3) {
                        return null;
                    }
                    things.add(10 + n);
                }
                letters.append(letter);
            }
        }
        return things.size() > now.places ? null : things;
    }

    /** Every way to cut is looked at; null: it can not be made. */
    private List<List<Integer>> made(List<Integer> message) {
        for (int s : message) {
            if (things(List.of(s)) == null) {
                return null;
            }
        }
        if (message.isEmpty()) {
            return List.of();
        }
        List<List<Integer>> best = null;
        for (int cuts = 0; cuts < 1 << (message.size() - 1); cuts++) {
            List<List<Integer>> hoists = new ArrayList<>();
            hoists.add(new ArrayList<>());
            for (int i = 0; i < message.size(); i++) {
                hoists.get(hoists.size() - 1).add(message.get(i));
                if ((cuts >> i & 1) == 1) {
                    hoists.add(new ArrayList<>());
                }
            }
            if (hoists.stream().allMatch(row -> things(row) != null) && (best == null || isBetter(hoists, best))) {
                best = hoists;
            }
        }
        return best;
    }

    private static boolean isBetter(List<List<Integer>> hoists, List<List<Integer>> best) {
        if (hoists.size() != best.size()) {
            return hoists.size() < best.size();
        }
        for (int k = 0; k < hoists.size(); k++) {
            if (hoists.get(k).size() != best.get(k).size()) {
                return hoists.get(k).size() > best.get(k).size();
            }
        }
        return false;
    }

    int hoist(int k, int what) {
        if (k < 0 || what < 0 || what > 3) {
            return BAD;
        }
        List<List<Integer>> hoists = made(now.message);
        if (hoists == null || k >= hoists.size()) {
            return NONE;
        }
        List<Integer> things = things(hoists.get(k));
        return switch (what) {
            case 0 -> hoists.subList(0, k).stream().mapToInt(List::size).sum();
            case 1 -> hoists.get(k).size();
            case 2 -> things.size();
            default -> (int) things.stream().filter(thing -> thing > 10 && thing < 20).count();
        };
    }

    int thing(int k, int i) {
        if (k < 0 || i < 0) {
            return BAD;
        }
        List<List<Integer>> hoists = made(now.message);
        if (hoists == null || k >= hoists.size()) {
            return NONE;
        }
        List<Integer> things = things(hoists.get(k));
        return i < things.size() ? things.get(i) : NONE;
    }

    /** A code as it looks from afar: a clear flag as itself, another one as its colour. */
    private String look(int s, int distance) {
        StringBuilder look = new StringBuilder();
        for (char letter : codes.get(s).toCharArray()) {
            int f = letter - 'a';
            look.append(sizes[f] >= distance ? letter : (char) ('0' + colours[f]));
        }
        return look.toString();
    }

    int told(int s, int other, int distance) {
        if (!isSentence(s) || !isSentence(other) || distance < 1 || distance > 9) {
            return BAD;
        }
        return look(s, distance).equals(look(other, distance)) ? 1 : 0;
    }

    private int rows(List<Integer> hoist, int from, int distance) {
        if (from == hoist.size()) {
            return 1;
        }
        int rows = 0;
        for (int s = 0; s < codes.size(); s++) {
            rows += told(hoist.get(from), s, distance) == 1 ? rows(hoist, from + 1, distance) : 0;
        }
        return rows;
    }

    int meanings(int k, int distance) {
        if (k < 0 || distance < 1 || distance > 9) {
            return BAD;
        }
        List<List<Integer>> hoists = made(now.message);
        return hoists == null || k >= hoists.size() ? NONE : rows(hoists.get(k), 0, distance);
    }

    int sees(int k, int n) {
        if (k < 0 || k > 7 || n < 0 || n > 7) {
            return BAD;
        }
        if (seen.size() == 6) {
            return FULL;
        }
        seen.add(new Seen(k, n));
        return seen.size();
    }

    int forget() {
        int had = seen.size();
        seen.clear();
        return had;
    }

    int unseen() {
        int bits = 0;
        for (int place = 0; place < now.message.size(); place++) {
            List<Integer> message = new ArrayList<>(now.message);
            message.remove(place);
            List<List<Integer>> hoists = made(message);
            if (hoists != null && seen.stream().allMatch(s ->
                    s.things == (s.hoist < hoists.size() ? things(hoists.get(s.hoist)).size() : 0))) {
                bits += 1 << place;
            }
        }
        return bits;
    }

    int keep(int image) {
        if (image != 0 && image != 1) {
            return BAD;
        }
        images[image] = now;
        return now.message.size();
    }

    int back(int image) {
        if (image != 0 && image != 1) {
            return BAD;
        }
        if (images[image] == null) {
            return STATE;
        }
        now = images[image];
        undo.clear();
        return now.message.size();
    }

    private int farthest(List<List<Integer>> hoists) {
        int farthest = 0;
        for (int distance = 1; distance <= 9; distance++) {
            int at = distance;
            if (hoists.stream().allMatch(row -> rows(row, 0, at) == 1)) {
                farthest = distance;
            }
        }
        return farthest;
    }

    int count(int what) {
        List<List<Integer>> hoists = what == 3 || what == 4 ? made(now.message) : null;
        return switch (what) {
            case 0 -> codes.size();
            case 1 -> now.message.size();
            case 2 -> now.places;
            case 3 -> hoists == null ? NONE : hoists.size();
            case 4 -> hoists == null ? NONE : farthest(hoists);
            case 5 -> now.times == 0 ? NONE : now.understood;
            case 6 -> now.understood;
            case 7 -> seen.size();
            case 8 -> text.length();
            case 9 -> undo.size();
            default -> BAD;
        };
    }
}
