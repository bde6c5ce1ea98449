import java.util.ArrayList;
import java.util.List;

/**
 * All that can be told from outside of an object behind a run of calls: two objects that look alike are alike.
 * Each part is asked of an object of its own, as some parts can only be had by changing it,
 * and as no object answers for more than 512 calls.
 */
final class Look {
    private static final List<List<Call>> PARTS = parts();

    private Look() {
    }

    static List<Integer> at(List<Call> run) {
        List<Integer> answers = new ArrayList<>();
        for (List<Call> part : PARTS) {
            FlagHoists x = Call.made(run);
            for (Call call : part) {
                answers.add(call.on(x));
            }
        }
        return answers;
    }

    private static List<List<Call>> parts() {
        List<List<Call>> parts = new ArrayList<>();
        parts.add(ofBook());
        parts.add(ofMessage());
        parts.add(fromAfar());
        parts.add(List.of(Call.of("answers", 1), Call.of("sends"), Call.of("count", 5)));
        parts.add(List.of(Call.of("sends"), Call.of("count", 5), Call.of("answers", 0)));
        parts.add(List.of(Call.of("forget"), Call.of("clear"), Call.of("undo")));
        for (int image = 0; image < 2; image++) {
            List<Call> part = new ArrayList<>(List.of(Call.of("back", image)));
            part.addAll(ofMessage());
            part.add(Call.of("answers", 1));
            parts.add(part);
        }
        for (int deeds = 1; deeds <= 11; deeds++) {
            List<Call> part = new ArrayList<>();
            for (int i = 0; i < deeds; i++) {
                part.add(Call.of("undo"));
            }
            part.addAll(ofMessage());
            part.add(Call.of("answers", 1));
            parts.add(part);
        }
        // what THE TEXT holds, as far as it can be read, and behind a letter more
        List<Call> read = new ArrayList<>(List.of(Call.of("book")));
        read.addAll(ofBook());
        parts.add(read);
        parts.add(List.of(Call.of("type", ';'), Call.of("book"), Call.of("count", 0)));
        // what is SEEN, told by another message
        parts.add(List.of(Call.of("takes", 0), Call.of("unseen"), Call.of("places", 3), Call.of("unseen"),
                Call.of("places", 7), Call.of("unseen"), Call.of("takes", 0), Call.of("unseen")));
        return parts;
    }

    private static List<Call> ofBook() {
        List<Call> part = new ArrayList<>();
        for (int f = 0; f < 8; f++) {
            part.add(Call.of("flag", f, 0));
            part.add(Call.of("flag", f, 1));
            part.add(Call.of("first", f));
        }
        for (int s = 0; s <= 10; s++) {
            part.add(Call.of("sorted", s));
            for (int i = -1; i < 5; i++) {
                part.add(Call.of("code", s, i));
            }
        }
        return part;
    }

    private static List<Call> ofMessage() {
        List<Call> part = new ArrayList<>();
        for (int what = 0; what < 10; what++) {
            part.add(Call.of("count", what));
        }
        for (int place = 0; place <= 8; place++) {
            part.add(Call.of("message", place));
        }
        for (int k = 0; k <= 8; k++) {
            for (int what = 0; what < 4; what++) {
                part.add(Call.of("hoist", k, what));
            }
            for (int i = 0; i < 8; i++) {
                part.add(Call.of("thing", k, i));
            }
        }
        return part;
    }

    private static List<Call> fromAfar() {
        List<Call> part = new ArrayList<>();
        for (int distance = 1; distance <= 9; distance++) {
            for (int k = 0; k <= 8; k++) {
                part.add(Call.of("meanings", k, distance));
            }
            for (int s = 0; s < 4; s++) {
                part.add(Call.of("told", s, 0, distance));
                part.add(Call.of("told", 1, s, distance));
            }
        }
        part.add(Call.of("unseen"));
        return part;
    }
}
