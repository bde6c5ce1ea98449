import java.util.List;

/** Every short message over books that are hard to cut, with all PLACES: what is made of it, held against the model. */
public final class HoistsTest {
    private static final int MOST = 4;
    private static final String[] BOOKS = {
        "ka;kaa;kaaa;kaaaa;kb;",
        "ka;kb;kab;kba;kabab;",
        "kaab;kabb;kbaa;kc;ka;",
        "kabca;kabcb;kabcc;kd;kc;",
        "kabcd;kdcba;kdd;kad;kda;",
        "kaba;kbab;kac;kca;kabc;",
        "kaabb;kabba;kcc;kc;kh;",
    };
    private static final int SENTENCES = 5;

    private final Model model = new Model();
    private final FlagHoists x = new FlagHoists();
    private final String name;

    private HoistsTest(String book, int places) {
        name = "p" + places + ";" + book;
        for (Call call : Call.typing(name)) {
            both(call);
        }
        both(Call.of("book"));
    }

    public static void main(String[] args) {
        for (String book : BOOKS) {
            for (int places = 3; places <= 7; places++) {
                messages(book, places);
            }
        }
        Check.end();
    }

    /** An object has but 512 calls, so each message has one of its own. */
    private static void messages(String book, int places) {
        int all = 1;
        for (int size = 1; size <= MOST; size++) {
            all *= SENTENCES;
            for (int number = 0; number < all; number++) {
                HoistsTest test = new HoistsTest(book, places);
                int rest = number;
                for (int place = 0; place < size; place++) {
                    test.both(Call.of("puts", place, rest % SENTENCES));
                    rest /= SENTENCES;
                }
                test.hoists();
            }
        }
    }

    private void both(Call call) {
        Check.due(name + " " + call, call.on(model), call.on(x));
    }

    private void hoists() {
        both(Call.of("count", 3));
        both(Call.of("count", 4));
        both(Call.of("unseen"));
        int hoists = Math.max(0, model.count(3));
        for (int k = 0; k <= hoists; k++) {
            for (int what = 0; what <= 3; what++) {
                both(Call.of("hoist", k, what));
            }
            for (int i = 0; i <= 7; i++) {
                both(Call.of("thing", k, i));
            }
        }
        sent(hoists);
    }

    /** All of them go up, one behind the other, and no more. */
    private void sent(int hoists) {
        for (int k = 0; k <= hoists; k++) {
            for (Call call : List.of(Call.of("sends"), Call.of("answers", 0), Call.of("count", 5), Call.of("answers", 1))) {
                both(call);
            }
        }
        both(Call.of("count", 6));
    }
}
