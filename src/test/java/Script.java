import java.util.ArrayList;
import java.util.List;
import java.util.Map;

/**
 * Runs of calls as text, each on a new hall. "form 8 = 0" is a call with the answer that is due,
 * "form 3 ! argument" one with the exception that is due (index, argument, state), "drum SLOW = any"
 * one that is due to be answered, "beats 4" one that only prepares others (and is to be answered,
 * too), "9x beats 100 = 100" nine of them; calls are parted by semicolons.
 *
 * Behind each call that is refused, the hall is compared with a twin that was spared it.
 */
final class Script {
    private static final Map<String, Integer> WORDS = Map.ofEntries(
        Map.entry("NONE", GongCycles.NONE), Map.entry("BASE", GongCycles.BASE),
        Map.entry("TWIN", GongCycles.TWIN), Map.entry("TURN", GongCycles.TURN),
        Map.entry("WALK", GongCycles.WALK), Map.entry("HOLD", GongCycles.HOLD),
        Map.entry("SLOW", GongCycles.SLOW), Map.entry("HASTEN", GongCycles.HASTEN),
        Map.entry("END", GongCycles.END), Map.entry("CUT", GongCycles.CUT),
        Map.entry("MIN", Integer.MIN_VALUE), Map.entry("MAX", Integer.MAX_VALUE));
    private static final Map<String, String> REFUSALS = Map.of(
        "index", "throws.IndexOutOfBoundsException",
        "argument", "throws.IllegalArgumentException",
        "state", "throws.IllegalStateException");
    private static final String ANY = "any";
    private static final String PREPARES = "any, it prepares others";

    private record Call(String name, int[] a, String due) {
        boolean isAnsweredAnyhow() {
            return due.startsWith(ANY);
        }

        boolean isRefused() {
            return due.startsWith("throws.");
        }

        String written() {
            return Calls.written(name, a);
        }
    }

    private static String told = "";
    private static int runsOfSentence = 1;

    private Script() {
    }

    /** The sentence of the document, and its heading, that the runs behind it try. */
    static void sentence(String heading, String words) {
        untried();
        told = heading + ", \"" + words + "\": ";
        runsOfSentence = 0;
    }

    static void end() {
        untried();
        Check.end();
    }

    private static void untried() {
        if (runsOfSentence == 0) {
            throw new AssertionError("no run for " + told);
        }
    }

    static void run(String... lines) {
        List<Call> calls = new ArrayList<>();
        for (String line : lines) {
            for (String text : line.split(";")) {
                addCalls(calls, text.trim());
            }
        }
        if (calls.stream().allMatch(call -> call.due.equals(PREPARES))) {
            throw new AssertionError("nothing is due in a run of " + told);
        }
        runsOfSentence++;
        answers(calls);
        for (int at = 0; at < calls.size(); at++) {
            if (calls.get(at).isRefused()) {
                nothingChanged(calls.subList(0, at + 1));
            }
        }
    }

    private static void addCalls(List<Call> calls, String text) {
        if (text.isEmpty()) {
            return;
        }
        String[] words = text.split(" +");
        boolean many = words[0].matches("[0-9]+x");
        int times = many ? Integer.parseInt(words[0].substring(0, words[0].length() - 1)) : 1;
        int name = many ? 1 : 0;
        int behind = name + 1;
        while (behind < words.length && !words[behind].equals("=") && !words[behind].equals("!")) {
            behind++;
        }
        int[] a = new int[behind - name - 1];
        for (int at = 0; at < a.length; at++) {
            a[at] = number(words[name + 1 + at]);
        }
        Call call = new Call(words[name], a, dueOf(words, behind, text));
        for (int time = 0; time < times; time++) {
            calls.add(call);
        }
    }

    private static String dueOf(String[] words, int behind, String text) {
        if (behind == words.length) {
            return PREPARES;
        }
        if (behind + 2 != words.length) {
            throw new AssertionError("not a call: " + text);
        }
        String due = words[behind + 1];
        if (words[behind].equals("=") && due.equals(ANY)) {
            return ANY;
        }
        if (words[behind].equals("=")) {
            return WORDS.containsKey(due) ? WORDS.get(due).toString() : Long.toString(Long.parseLong(due));
        }
        if (!REFUSALS.containsKey(due)) {
            throw new AssertionError("not a refusal: " + text);
        }
        return REFUSALS.get(due);
    }

    private static int number(String word) {
        return WORDS.containsKey(word) ? WORDS.get(word) : Integer.parseInt(word);
    }

    private static void answers(List<Call> calls) {
        GongCycles hall = new GongCycles();
        for (int at = 0; at < calls.size(); at++) {
            Call call = calls.get(at);
            String got = Check.answerOf(() -> Calls.made(hall, call.name, call.a));
            boolean anyWillDo = call.isAnsweredAnyhow() && !got.startsWith("throws.");
            Check.same(told + "call " + (at + 1) + ", " + call.written(), got, anyWillDo ? got : call.due);
        }
    }

    private static void nothingChanged(List<Call> calls) {
        GongCycles hall = new GongCycles();
        GongCycles twin = new GongCycles();
        for (Call call : calls) {
            Check.answerOf(() -> Calls.made(hall, call.name, call.a));
            if (!call.isRefused()) {
                Check.answerOf(() -> Calls.made(twin, call.name, call.a));
            }
        }
        String call = told + "behind the refused " + calls.get(calls.size() - 1).written();
        Check.same(call, State.of(hall, calls.size()), State.of(twin, calls.size()));
    }
}
