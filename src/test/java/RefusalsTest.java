import java.util.ArrayList;
import java.util.Arrays;
import java.util.LinkedHashMap;
import java.util.List;
import java.util.Map;

/**
 * "Refused, and nothing changes": in states at the edges, every call with numbers at the edges. What is due is the
 * model's answer; where that is a refusal, or the call only tells something, all looks as it did without the call.
 */
public final class RefusalsTest {
    private static final int[] NUMBERS = {Integer.MIN_VALUE, Integer.MIN_VALUE + 1, -256, -10, -9, -3, -2, -1,
        0, 1, 2, 3, 4, 5, 6, 7, 8, 9, 10, 11, 12, 31, 32, 120, 121, 127, 128, 255, 256, 257, 512,
        Integer.MAX_VALUE - 1, Integer.MAX_VALUE};
    private static final int[] FEW_NUMBERS = {Integer.MIN_VALUE, -2, -1, 0, 1, 3, 7, 8, 9, 10, Integer.MAX_VALUE};

    private static int refusals = 0;

    public static void main(String[] args) {
        Check.counts("all is full", Call.made(allFull()), 10, 8, 5, 6, 2, 1, 1, 6, 120, 10);
        for (Map.Entry<String, List<Call>> state : states().entrySet()) {
            Check.about(state.getKey());
            List<Integer> before = Look.at(state.getValue());
            for (Call call : calls()) {
                hold(state.getValue(), call, before);
            }
        }
        Check.about("");
        Check.isTrue("some refusals were met: " + refusals, refusals > 1000);
        Check.end();
    }

    private static void hold(List<Call> run, Call call, List<Integer> before) {
        int want = call.on(Call.modelled(run));
        int got = call.on(Call.made(run));
        Check.due(call.toString(), want, got);
        // a letter, a place and a sentence are 0 or more, so that what is below is a refusal
        if (want >= 0 && !call.isQuestion()) {
            return;
        }
        refusals++;
        List<Call> longer = new ArrayList<>(run);
        longer.add(call);
        Check.isTrue("something changed at " + call, before.equals(Look.at(longer)));
    }

    private static List<Call> calls() {
        List<Call> calls = new ArrayList<>();
        for (String name : Call.OF_NONE) {
            calls.add(Call.of(name));
        }
        for (int a : NUMBERS) {
            for (String name : Call.OF_ONE) {
                calls.add(Call.of(name, a));
            }
        }
        for (int a : FEW_NUMBERS) {
            for (int b : FEW_NUMBERS) {
                for (String name : Call.OF_TWO) {
                    calls.add(Call.of(name, a, b));
                }
            }
            for (int b : new int[] {-1, 0, 10}) {
                for (int c : new int[] {0, 1, 9, 10}) {
                    calls.add(Call.of("told", a, b, c));
                }
            }
        }
        return calls;
    }

    private static List<Call> run(String text, Call... behind) {
        List<Call> run = new ArrayList<>(Call.typing(text));
        run.add(Call.of("book"));
        run.addAll(Arrays.asList(behind));
        return run;
    }

    private static Call[] puts(int... sentences) {
        Call[] calls = new Call[sentences.length];
        for (int i = 0; i < calls.length; i++) {
            calls[i] = Call.of("puts", i, sentences[i]);
        }
        return calls;
    }

    private static Map<String, List<Call>> states() {
        Map<String, List<Call>> states = new LinkedHashMap<>();
        states.put("a new object", List.of());
        states.put("a book alone", run("p3;fa1 2;fb1 2;ka;kb;kabcd;kba;"));
        states.put("all is full", allFull());
        states.put("it can not be made", notMade());
        states.put("all were sent", allSent());
        states.put("a text with a fault", faultInText());
        return states;
    }

    /** Ten sentences, eight in the message, ten to undo, the second hoist up for the third time, six seen, images, 120 letters. */
    private static List<Call> allFull() {
        List<Call> run = run("p4;fa1 3;fb1 3;fc1 8;fd2 2;fe2 2;ka;kb;kc;kd;ke;kab;kba;kaa;kabc;kabcd;",
                puts(0, 5, 8, 1, 7, 9, 2, 6));
        run.add(Call.of("takes", 3));
        run.add(Call.of("keep", 0));
        run.add(Call.of("places", 5));
        run.add(Call.of("puts", 0, 3));
        run.add(Call.of("sends"));
        run.add(Call.of("answers", 1));
        run.add(Call.of("sends"));
        run.add(Call.of("keep", 1));
        run.add(Call.of("answers", 0));
        run.add(Call.of("answers", 0));
        for (int n = 0; n < 6; n++) {
            run.add(Call.of("sees", n, n == 0 ? 5 : 4));
        }
        StringBuilder text = new StringBuilder("kc;kd;");
        while (text.length() < 120) {
            text.append(' ');
        }
        run.addAll(Call.typing(text.toString()));
        return run;
    }

    private static List<Call> notMade() {
        List<Call> run = run("p3;ka;kabcd;kb;", puts(0, 1, 2));
        run.add(Call.of("sees", 0, 3));
        run.add(Call.of("keep", 1));
        return run;
    }

    private static List<Call> allSent() {
        List<Call> run = run("p7;fa2 2;fb2 3;ka;kb;", puts(0, 1, 0));
        run.add(Call.of("sends"));
        run.add(Call.of("answers", 1));
        run.add(Call.of("keep", 0));
        return run;
    }

    private static List<Call> faultInText() {
        List<Call> run = run("ka;kb;", puts(1, 0));
        run.add(Call.of("sends"));
        run.add(Call.of("sees", 0, 1));
        run.add(Call.of("keep", 0));
        run.addAll(Call.typing("p6;fa3 3;kc;kd;kc;"));
        return run;
    }
}
