import java.util.Random;

/**
 * Promises 1 to 26 in long runs of mixed calls, right ones and wrong ones, each of at most 512
 * calls: every answer is that of the model, and a twin that is spared the calls that throw gives
 * the same answers to the others. The seeds are fixed, so that each session has the same runs.
 */
final class RunsTest {
    private static final String[] NAMES = {
        "form", "depth", "piece", "tone", "forbid", "sounds", "stroke", "strokeAnew",
        "begin", "drum", "beats", "now", "ticks", "strokes", "days",
        "pitch", "drift", "years", "tune", "beat",
        "player", "learn", "slip", "unlike", "covered",
    };
    private static final int[] FAR = {
        Integer.MIN_VALUE, Integer.MAX_VALUE, -2, 1 << 30, -65536, 1000, 31, 32, 33, 64, 65,
    };

    private RunsTest() {
    }

    public static void main(String[] args) {
        for (int seed = 1; seed <= 1500; seed++) {
            // Few wrong arguments let a run go deep, many try what is refused.
            run(seed, seed % 3 == 0 ? 25 : seed % 3 == 1 ? 3 : 0);
        }
        Check.end();
    }

    private static void run(int seed, int wrongOfHundred) {
        Random random = new Random(seed);
        GongCycles hall = new GongCycles();
        GongCycles twin = new GongCycles();
        Model model = new Model();
        boolean players = random.nextBoolean();
        for (int made = 0; made < 512; made++) {
            String name = made < 12 ? opening(made) : nameOf(random, players);
            int[] a = argumentsOf(name, random, made < 12 ? 0 : wrongOfHundred);
            String call = "seed " + seed + " call " + made + ": " + Calls.written(name, a);
            String due = model.call(name, a);
            Check.same(call, Check.answerOf(() -> Calls.made(hall, name, a)), due);
            if (!due.startsWith("throws.")) {
                Check.same("twin, " + call, Check.answerOf(() -> Calls.made(twin, name, a)), due);
            }
        }
    }

    /** The first calls of a run make what the others need. */
    private static String opening(int made) {
        return made < 3 ? "form" : made < 6 ? "piece" : made < 9 ? "player" : "tone";
    }

    /** Half of the calls tell a story that goes on, the rest is any call. */
    private static String nameOf(Random random, boolean players) {
        String[] playing = {"begin", "drum", "beats", "beats", "now", "days", "tone", "stroke"};
        String[] learning = {"learn", "slip", "unlike", "covered", "tone", "tune", "years", "beat"};
        int choice = random.nextInt(2);
        if (choice == 0) {
            return (players ? learning : playing)[random.nextInt(8)];
        }
        return NAMES[random.nextInt(NAMES.length)];
    }

    private static int[] argumentsOf(String name, Random random, int wrongOfHundred) {
        int[] a = rightOnes(name, random);
        for (int at = 0; at < a.length; at++) {
            if (random.nextInt(100) < wrongOfHundred) {
                int near = random.nextBoolean() ? -1 - random.nextInt(2) : a[at] + 1 + random.nextInt(8);
                a[at] = random.nextBoolean() ? FAR[random.nextInt(FAR.length)] : near;
            }
        }
        return a;
    }

    private static int place(Random random) {
        int[] bounds = {4, 8, 12, 64};
        return 1 + random.nextInt(bounds[random.nextInt(4)]);
    }

    private static int pitchAmong(Random random) {
        int[] bounds = {5000, 5001, 44000, 200000, 199999, 5000 + random.nextInt(195001)};
        return bounds[random.nextInt(6)];
    }

    private static int fewOrMany(Random random, int few, int many) {
        return 1 + random.nextInt(random.nextBoolean() ? few : many);
    }

    private static int[] rightOnes(String name, Random random) {
        int piece = random.nextInt(random.nextInt(4) == 0 ? 6 : 3);
        int player = random.nextInt(random.nextInt(4) == 0 ? 8 : 3);
        int other = random.nextInt(4) - 1;
        int set = random.nextInt(4);
        int tone = random.nextInt(8);
        switch (name) {
            case "form": return new int[] {4 * (1 + random.nextInt(random.nextBoolean() ? 3 : 16))};
            case "depth": return new int[] {random.nextInt(4), place(random)};
            case "piece": return new int[] {random.nextInt(3)};
            case "tone": return new int[] {piece, place(random), tone};
            case "forbid": return new int[] {piece, random.nextInt(32) & random.nextInt(32)};
            case "sounds": return new int[] {piece, place(random)};
            case "stroke": case "strokeAnew": return strokeOnes(piece, random);
            case "begin": case "covered": return new int[] {piece};
            case "drum": return new int[] {random.nextInt(random.nextBoolean() ? 4 : 5)};
            case "beats": return new int[] {fewOrMany(random, 9, 100)};
            case "now": return new int[] {random.nextInt(6)};
            case "ticks": return new int[0];
            case "strokes": return new int[] {random.nextInt(4)};
            case "days": return new int[] {fewOrMany(random, 5, 100)};
            case "pitch": return new int[] {set, 1 + random.nextInt(7), pitchAmong(random)};
            case "drift": return new int[] {set, random.nextInt(51)};
            case "years": return new int[] {fewOrMany(random, 3, 30)};
            case "tune": return new int[] {set, random.nextInt(4)};
            case "beat": return new int[] {set, random.nextInt(4), 1 + random.nextInt(7)};
            case "player": return new int[] {random.nextInt(16)};
            case "learn": return new int[] {player, piece, other};
            case "slip": return new int[] {player, piece, place(random), tone};
            default: return new int[] {player, other, piece};
        }
    }

    private static int[] strokeOnes(int piece, Random random) {
        int part = random.nextInt(4);
        int level = random.nextInt(4);
        int stroke = random.nextInt(Model.density(part, level));
        return new int[] {piece, part, place(random), level, stroke};
    }
}
