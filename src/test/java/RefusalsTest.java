import java.util.function.Function;

/**
 * "Exceptions": the first line of a method's throws clause that applies decides, and a call that
 * throws changes nothing. For each promise all ways are tried in which its arguments are right and
 * wrong together, in states in which it is refused and in others; Script compares what is behind a
 * refused call with a twin that was spared it.
 */
final class RefusalsTest {
    private static final int NONE = GongCycles.NONE;
    private static final int MIN = Integer.MIN_VALUE;
    private static final int MAX = Integer.MAX_VALUE;
    /** Something of each kind: 2 forms of 8 and 4, 2 pieces of them, 3 players, sets, days. */
    private static final String HALL = "form 8; form 4; piece 0; piece 1; tone 0 3 5; tone 1 1 2; forbid 0 8;"
        + "player 3; player 12; player 15; learn 0 0 NONE; slip 0 0 2 6; learn 1 1 NONE; learn 1 0 0;"
        + "pitch 1 1 50000; pitch 2 7 5001; drift 2 30; years 3; days 6;";
    private static final String CUT = HALL + "begin 1; drum SLOW; beats 7; drum CUT;";
    private static final String ENDED = HALL + "begin 1; drum HASTEN; drum END; beats 4;";
    private static final String PLAYED = CUT + "begin 0; drum SLOW; beats 5; drum END;";
    private static final String[] UNPLAYED_AND_PLAYED = {HALL, CUT, ENDED, PLAYED};

    private RefusalsTest() {
    }

    public static void main(String[] args) {
        form();
        depth();
        piece();
        tone();
        forbid();
        sounds();
        stroke("Promise 8", "stroke");
        stroke("Promise 9", "strokeAnew");
        begin();
        drum();
        beats();
        nowAndStrokes();
        days();
        pitch();
        drift();
        years();
        tune();
        beat();
        player();
        learn();
        slip();
        unlike();
        covered();
        Script.end();
    }

    /** What is due, by the lines of a throws clause in their order. */
    private static String first(boolean index, boolean argument, boolean state) {
        return index ? "! index" : argument ? "! argument" : state ? "! state" : "= any";
    }

    private static boolean out(int low, int it, int high) {
        return it < low || it > high;
    }

    private static int[] values(int... them) {
        return them;
    }

    private static void throwsClause(String promise) {
        Script.sentence(promise, "[Throws:] The first line of a method's throws clause that applies decides; "
            + "a call that throws changes nothing.");
    }

    /** Makes the call behind this preparation with each choice of one value for each argument. */
    private static void all(String before, String call, Function<int[], String> due, int[]... choices) {
        int[] a = new int[choices.length];
        int ways = 1;
        for (int[] values : choices) {
            ways *= values.length;
        }
        for (int way = 0; way < ways; way++) {
            StringBuilder text = new StringBuilder(before).append(call);
            int left = way;
            for (int at = 0; at < a.length; at++) {
                a[at] = choices[at][left % choices[at].length];
                left /= choices[at].length;
                text.append(" ").append(a[at]);
            }
            Script.run(text + " " + due.apply(a));
        }
    }

    private static boolean isPlayed(String before) {
        return before.equals(PLAYED);
    }

    private static boolean noPlace(int piece, int place) {
        return out(0, piece, 1) || out(1, place, piece == 0 ? 8 : 4);
    }

    private static void form() {
        throwsClause("Promise 2");
        for (int made = 0; made <= 2; made++) {
            boolean four = made == 2;
            all(HALL + (made > 0 ? "form 12;" : "") + (four ? "form 64;" : ""), "form",
                a -> first(false, out(4, a[0], 64) || a[0] % 4 != 0, four),
                values(4, 64, 32, 0, 3, 5, 6, 66, 68, -4, MIN, MAX));
        }
    }

    private static void depth() {
        throwsClause("Promise 3");
        all(HALL, "depth", a -> first(out(0, a[0], 1) || out(1, a[1], a[0] == 0 ? 8 : 4), false, false),
            values(-1, 0, 1, 2, MIN, MAX), values(-1, 0, 1, 4, 5, 8, 9, MIN, MAX));
    }

    private static void piece() {
        throwsClause("Promise 4");
        for (int more = 0; more <= 4; more++) {
            boolean six = more == 4;
            all(HALL + (more == 0 ? "" : more + "x piece 1;"), "piece",
                a -> first(out(0, a[0], 1), false, six), values(-1, 0, 1, 2, 4, MIN, MAX));
        }
    }

    private static void tone() {
        throwsClause("Promise 5");
        for (String before : new String[] {HALL, PLAYED}) {
            all(before, "tone", a -> first(noPlace(a[0], a[1]), out(0, a[2], 7), false),
                values(-1, 0, 1, 2, MAX), values(0, 1, 4, 5, 8, 9, MIN), values(-1, 0, 7, 8, MIN, MAX));
        }
    }

    private static void forbid() {
        throwsClause("Promise 6");
        for (String before : new String[] {HALL, PLAYED}) {
            all(before, "forbid", a -> first(out(0, a[0], 1), out(0, a[1], 31), false),
                values(-1, 0, 1, 2, MIN, MAX), values(-1, 0, 31, 32, MIN, MAX));
        }
    }

    private static void sounds() {
        throwsClause("Promise 7");
        all(HALL, "sounds", a -> first(noPlace(a[0], a[1]), false, false),
            values(-1, 0, 1, 2, MIN, MAX), values(-1, 0, 1, 4, 5, 8, 9, MIN, MAX));
    }

    private static void stroke(String promise, String call) {
        int[][] densities = {{1, 1, 1, 1}, {2, 4, 8, 16}, {1, 2, 4, 8}, {2, 4, 8, 16}};
        throwsClause(promise);
        all(HALL, call, a -> {
            boolean noPart = out(0, a[1], 3);
            boolean noLevel = out(0, a[3], 3);
            boolean noStroke = noPart || noLevel || out(0, a[4], densities[a[1]][a[3]] - 1);
            return first(noPart || noPlace(a[0], a[2]), noLevel || noStroke, false);
        }, values(-1, 0, 1, 2), values(-1, 0, 1, 2, 3, 4), values(0, 1, 5, 9), values(-1, 0, 3, 4),
            values(-1, 0, 1, 7, 8, 15, 16, MAX));
    }

    private static void begin() {
        throwsClause("Promise 10");
        // Today is the day 1.
        String[] befores = {HALL, CUT, ENDED, PLAYED, HALL + "forbid 0 2;", PLAYED + "forbid 0 2;", HALL + "forbid 0 29;"};
        for (String before : befores) {
            boolean played = before.startsWith(PLAYED);
            boolean forbidden = before.endsWith("forbid 0 2;");
            all(before, "begin", a -> first(out(0, a[0], 1), false, played || forbidden && a[0] == 0),
                values(-1, 0, 1, 2, 5, 6, MIN, MAX));
        }
    }

    private static void drum() {
        throwsClause("Promise 11");
        for (String before : UNPLAYED_AND_PLAYED) {
            all(before, "drum", a -> first(false, out(0, a[0], 4), !isPlayed(before)),
                values(-1, 0, 1, 2, 3, 4, 5, MIN, MAX));
        }
    }

    private static void beats() {
        throwsClause("Promise 12");
        for (String before : UNPLAYED_AND_PLAYED) {
            all(before, "beats", a -> first(false, out(1, a[0], 100), !isPlayed(before)),
                values(-1, 0, 1, 100, 101, MIN, MAX));
        }
    }

    private static void nowAndStrokes() {
        for (String before : UNPLAYED_AND_PLAYED) {
            throwsClause("Promise 13");
            all(before, "now", a -> first(false, out(0, a[0], 5), false), values(-1, 0, 1, 2, 3, 4, 5, 6, MIN, MAX));
            throwsClause("Promise 15");
            all(before, "strokes", a -> first(out(0, a[0], 3), false, false), values(-1, 0, 3, 4, MIN, MAX));
        }
    }

    private static void days() {
        throwsClause("Promise 16");
        for (String before : UNPLAYED_AND_PLAYED) {
            all(before, "days", a -> first(false, out(1, a[0], 100), isPlayed(before)),
                values(-1, 0, 1, 100, 101, MIN, MAX));
        }
    }

    private static void pitch() {
        throwsClause("Promise 17");
        all(HALL, "pitch", a -> first(out(0, a[0], 3) || out(1, a[1], 7), out(5000, a[2], 200000), false),
            values(-1, 0, 3, 4, MAX), values(0, 1, 7, 8, MIN), values(4999, 5000, 200000, 200001, MIN, MAX));
    }

    private static void drift() {
        throwsClause("Promise 18");
        all(HALL, "drift", a -> first(out(0, a[0], 3), out(0, a[1], 50), false),
            values(-1, 0, 2, 3, 4, MIN, MAX), values(-1, 0, 50, 51, MIN, MAX));
    }

    private static void years() {
        throwsClause("Promise 19");
        // The hall has had 3 years.
        int[] more = {0, 267, 268, 296, 297};
        for (int had : more) {
            String gone = (had >= 30 ? had / 30 + "x years 30;" : "") + (had % 30 > 0 ? "years " + had % 30 + ";" : "");
            all(HALL + "drift 1 50;" + gone, "years",
                a -> first(false, out(1, a[0], 30), 3 + had + (long) a[0] > 300),
                values(-1, 0, 1, 2, 29, 30, 31, MIN, MAX));
        }
    }

    private static void tune() {
        throwsClause("Promise 20");
        all(HALL, "tune", a -> first(out(0, a[0], 3) || out(0, a[1], 3), a[0] == a[1], false),
            values(-1, 0, 1, 2, 3, 4, MIN, MAX), values(-1, 0, 1, 2, 3, 4, MIN, MAX));
    }

    private static void beat() {
        throwsClause("Promise 21");
        all(HALL, "beat", a -> first(out(0, a[0], 3) || out(0, a[1], 3) || out(1, a[2], 7), false, false),
            values(-1, 0, 3, 4, MIN), values(-1, 0, 3, 4, MAX), values(-1, 0, 1, 7, 8));
    }

    private static void player() {
        throwsClause("Promise 22");
        for (int more : new int[] {0, 4, 5}) {
            all(HALL + (more == 0 ? "" : more + "x player 1;"), "player",
                a -> first(false, out(0, a[0], 15), more == 5), values(-1, 0, 15, 16, MIN, MAX));
        }
    }

    /** In the hall the players 0 and 1 know the piece 0, the player 1 alone knows the piece 1. */
    private static boolean knows(int player, int piece) {
        return player == 1 || player == 0 && piece == 0;
    }

    private static void learn() {
        throwsClause("Promise 23");
        all(HALL, "learn", a -> {
            boolean ofNobody = a[2] != NONE && out(0, a[2], 2);
            boolean index = out(0, a[0], 2) || out(0, a[1], 1) || ofNobody;
            return first(index, a[2] == a[0], a[2] != NONE && !knows(a[2], a[1]));
        }, values(-1, 0, 1, 2, 3, -2), values(-1, 0, 1, 2, MAX), values(NONE, 0, 1, 2, 3, -2, MIN, MAX));
    }

    private static void slip() {
        throwsClause("Promise 24");
        all(HALL, "slip", a -> first(out(0, a[0], 2) || noPlace(a[1], a[2]), out(0, a[3], 7), !knows(a[0], a[1])),
            values(-1, 0, 1, 2, 3), values(-1, 0, 1, 2), values(0, 1, 4, 5, 8, 9), values(-1, 0, 7, 8, MIN));
    }

    private static void unlike() {
        throwsClause("Promise 25");
        all(HALL, "unlike", a -> first(
            out(0, a[0], 2) || a[1] != NONE && out(0, a[1], 2) || out(0, a[2], 1), false, false),
            values(-1, 0, 1, 2, 3, -2), values(NONE, 0, 1, 2, 3, -2, MIN, MAX), values(-1, 0, 1, 2));
    }

    private static void covered() {
        throwsClause("Promise 26");
        all(HALL, "covered", a -> first(out(0, a[0], 1), false, false), values(-1, 0, 1, 2, 5, 6, MIN, MAX));
    }
}
