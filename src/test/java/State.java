/**
 * All that calls can find out of a hall, as text. Most of it can be read only by setting it, so
 * that the hall is of no use behind it: two halls are compared by reading both.
 */
final class State {
    private static final int MOST_CALLS = 512;

    private final GongCycles hall;
    private int made;
    private final StringBuilder text = new StringBuilder();

    private State(GongCycles hall, int made) {
        this.hall = hall;
        this.made = made;
    }

    /** What is found out of a hall on which so many calls were made. */
    static String of(GongCycles hall, int callsMade) {
        State state = new State(hall, callsMade);
        state.askOfNow();
        state.askOfForms();
        state.askOfVersions();
        state.askOfPieces();
        state.askOfSets();
        state.askOfWhatIsToCome();
        state.askOfNumbers();
        return state.text.toString();
    }

    /** Whether the call was answered. */
    private boolean ask(String name, int... a) {
        made++;
        if (made > MOST_CALLS) {
            throw new AssertionError("a run too long to read the state behind it");
        }
        String answer = Check.answerOf(() -> Calls.made(hall, name, a));
        text.append(Calls.written(name, a)).append(" = ").append(answer).append("; ");
        return !answer.startsWith("throws.");
    }

    private void askOfNow() {
        for (int what = 0; what <= 5; what++) {
            ask("now", what);
        }
        ask("ticks");
        for (int part = 0; part < 4; part++) {
            ask("strokes", part);
        }
    }

    private void askOfForms() {
        for (int form = 0; form < 4; form++) {
            int length = 4;
            while (length <= 64 && ask("depth", form, length)) {
                length += 4;
            }
        }
    }

    private void askOfVersions() {
        for (int piece = 0; piece < 6 && ask("covered", piece); piece++) {
            for (int player = 0; player < 8 && ask("unlike", player, -1, piece); player++) {
                int place = 1;
                while (place <= 64 && ask("slip", player, piece, place, 0)) {
                    place++;
                }
            }
        }
    }

    private void askOfPieces() {
        for (int piece = 0; piece < 6; piece++) {
            int place = 1;
            while (place <= 64 && ask("tone", piece, place, 0)) {
                place++;
            }
        }
    }

    private void askOfSets() {
        for (int set = 0; set < 4; set++) {
            for (int tone = 1; tone <= 7; tone++) {
                ask("pitch", set, tone, 44000);
            }
            ask("drift", set, 0);
        }
        ask("years", 1);
    }

    /** The tempo and the end that were told, the days that are forbidden, and the day. */
    private void askOfWhatIsToCome() {
        if (ask("beats", 1)) {
            ask("now", 1);
            ask("beats", 100);
            ask("beats", 100);
            ask("now", 3);
            ask("now", 4);
            ask("drum", GongCycles.CUT);
        }
        ask("days", 1);
        for (int piece = 0; piece < 6 && ask("forbid", piece, 0); piece++) {
            text.append("piece ").append(piece).append("; ");
        }
    }

    private void askOfNumbers() {
        ask("form", 4);
        ask("piece", 0);
        ask("player", 0);
        ask("begin", 0);
    }
}
