/** Calls of the face by their names, for tests that keep calls as text or choose them. */
final class Calls {
    private Calls() {
    }

    static String written(String name, int... a) {
        StringBuilder text = new StringBuilder(name).append("(");
        for (int at = 0; at < a.length; at++) {
            text.append(at == 0 ? "" : ", ").append(a[at]);
        }
        return text.append(")").toString();
    }

    static long made(GongCycles hall, String name, int... a) {
        switch (name) {
            case "form": return hall.form(a[0]);
            case "depth": return hall.depth(a[0], a[1]);
            case "piece": return hall.piece(a[0]);
            case "tone": return hall.tone(a[0], a[1], a[2]);
            case "forbid": return hall.forbid(a[0], a[1]);
            case "sounds": return hall.sounds(a[0], a[1]);
            case "stroke": return hall.stroke(a[0], a[1], a[2], a[3], a[4]);
            case "strokeAnew": return hall.strokeAnew(a[0], a[1], a[2], a[3], a[4]);
            case "begin": return hall.begin(a[0]);
            case "drum": return hall.drum(a[0]);
            case "beats": return hall.beats(a[0]);
            case "now": return hall.now(a[0]);
            case "ticks": return hall.ticks();
            case "strokes": return hall.strokes(a[0]);
            case "days": return hall.days(a[0]);
            case "pitch": return hall.pitch(a[0], a[1], a[2]);
            case "drift": return hall.drift(a[0], a[1]);
            case "years": return hall.years(a[0]);
            case "tune": return hall.tune(a[0], a[1]);
            case "beat": return hall.beat(a[0], a[1], a[2]);
            case "player": return hall.player(a[0]);
            case "learn": return hall.learn(a[0], a[1], a[2]);
            case "slip": return hall.slip(a[0], a[1], a[2], a[3]);
            case "unlike": return hall.unlike(a[0], a[1], a[2]);
            case "covered": return hall.covered(a[0]);
            default: throw new AssertionError("no call of the face: " + name);
        }
    }
}
