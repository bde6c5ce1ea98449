import java.util.ArrayList;
import java.util.List;

/** One call of the face with its numbers, so that a run of calls can be had again on another object, or on the model. */
record Call(String name, int a, int b, int c) {
    static final String[] OF_NONE = {"clear", "book", "sends", "undo", "forget", "unseen"};
    static final String[] OF_ONE = {"type", "sorted", "first", "takes", "places", "answers", "message", "keep", "back", "count"};
    static final String[] OF_TWO = {"flag", "code", "puts", "hoist", "thing", "meanings", "sees"};

    static Call of(String name, int... numbers) {
        return new Call(name, numbers.length > 0 ? numbers[0] : 0, numbers.length > 1 ? numbers[1] : 0,
                numbers.length > 2 ? numbers[2] : 0);
    }

    static List<Call> typing(String text) {
        List<Call> calls = new ArrayList<>();
        for (char letter : text.toCharArray()) {
            calls.add(of("type", letter));
        }
        return calls;
    }

    static FlagHoists made(List<Call> run) {
        FlagHoists x = new FlagHoists();
        for (Call call : run) {
            call.on(x);
        }
        return x;
    }

    static Model modelled(List<Call> run) {
        Model model = new Model();
        for (Call call : run) {
            call.on(model);
        }
        return model;
    }

    int on(FlagHoists x) {
        return switch (name) {
            case "type" -> x.type(a);
            case "clear" -> x.clear();
            case "book" -> x.book();
            case "flag" -> x.flag(a, b);
            case "code" -> x.code(a, b);
            case "sorted" -> x.sorted(a);
            case "first" -> x.first(a);
            case "puts" -> x.puts(a, b);
            case "takes" -> x.takes(a);
            case "places" -> x.places(a);
            case "sends" -> x.sends();
            case "answers" -> x.answers(a);
            case "undo" -> x.undo();
            case "message" -> x.message(a);
            case "hoist" -> x.hoist(a, b);
            case "thing" -> x.thing(a, b);
            case "told" -> x.told(a, b, c);
            case "meanings" -> x.meanings(a, b);
            case "sees" -> x.sees(a, b);
            case "forget" -> x.forget();
            case "unseen" -> x.unseen();
            case "keep" -> x.keep(a);
            case "back" -> x.back(a);
            case "count" -> x.count(a);
            default -> throw new IllegalArgumentException(name);
        };
    }

    int on(Model model) {
        return switch (name) {
            case "type" -> model.type(a);
            case "clear" -> model.clear();
            case "book" -> model.book();
            case "flag" -> model.flag(a, b);
            case "code" -> model.code(a, b);
            case "sorted" -> model.sorted(a);
            case "first" -> model.first(a);
            case "puts" -> model.puts(a, b);
            case "takes" -> model.takes(a);
            case "places" -> model.places(a);
            case "sends" -> model.sends();
            case "answers" -> model.answers(a);
            case "undo" -> model.undo();
            case "message" -> model.message(a);
            case "hoist" -> model.hoist(a, b);
            case "thing" -> model.thing(a, b);
            case "told" -> model.told(a, b, c);
            case "meanings" -> model.meanings(a, b);
            case "sees" -> model.sees(a, b);
            case "forget" -> model.forget();
            case "unseen" -> model.unseen();
            case "keep" -> model.keep(a);
            case "back" -> model.back(a);
            case "count" -> model.count(a);
            default -> throw new IllegalArgumentException(name);
        };
    }

    /** Whether it only tells something, whatever its numbers are. */
    boolean isQuestion() {
        return switch (name) {
            case "flag", "code", "sorted", "first", "message", "hoist", "thing", "told", "meanings", "unseen", "count" -> true;
            default -> false;
        };
    }
}
