import java.util.ArrayList;
import java.util.HashMap;
import java.util.List;
import java.util.Map;

/**
 * The document once more, written for tests alone and in another way than the class: rows of
 * strokes are written out, tunings reckon with BigInteger, parts are covered by trying all ways.
 * An answer is a number as text, or throws. with an exception's name.
 */
final class Model {
    private static final String INDEX = "throws.IndexOutOfBoundsException";
    private static final String ARGUMENT = "throws.IllegalArgumentException";
    private static final String STATE = "throws.IllegalStateException";

    private final List<Integer> lengths = new ArrayList<>();
    private final List<int[]> pieces = new ArrayList<>();
    private final List<Integer> forbidden = new ArrayList<>();
    private final List<Integer> abilities = new ArrayList<>();
    private final Map<String, int[]> versions = new HashMap<>();
    private final int[][] pitches = new int[4][7];
    private final int[] drifts = new int[4];
    private final long[] strokes = new long[4];
    private final int[] now = {0, 0, 0, 0, 0, -1};
    private int begun;
    private int tempo;
    private int endGong;
    private int day;
    private int years;
    private long ticks;

    Model() {
        for (int[] row : pitches) {
            java.util.Arrays.fill(row, 44000);
        }
    }

    static int density(int part, int level) {
        int[][] densities = {{1, 1, 1, 1}, {2, 4, 8, 16}, {1, 2, 4, 8}, {2, 4, 8, 16}};
        return densities[part][level];
    }

    static int levelOf(int length) {
        return length < 40 ? 0 : length < 80 ? 1 : length < 160 ? 2 : 3;
    }

    /** All strokes of a pair, at the first place and then at the second one. */
    static int[] strokesOfPair(int part, int level, int x, int y) {
        int[] row = new int[2 * density(part, level)];
        int walker = x;
        for (int t = 0; t < row.length; t++) {
            if (part == GongCycles.TWIN) {
                row[t] = t / 2 % 2 == 0 ? x : y;
            } else if (part == GongCycles.WALK && x != 0 && y != 0) {
                row[t] = walker;
                walker += Integer.signum(y - walker);
            } else {
                row[t] = new int[] {x, y}[t & 1];
            }
        }
        if (part == GongCycles.WALK && x != 0 && y != 0) {
            row[row.length - 1] = y;
        }
        return row;
    }

    /** The most parts that the players from this one on can cover besides those taken. */
    static int mostCovered(int[] ables, int from, int taken) {
        if (from == ables.length) {
            return 0;
        }
        int most = mostCovered(ables, from + 1, taken);
        for (int part = 0; part < 4; part++) {
            int bit = 1 << part;
            if ((ables[from] & bit) != 0 && (taken & bit) == 0) {
                most = Math.max(most, 1 + mostCovered(ables, from + 1, taken | bit));
            }
        }
        return most;
    }

    private static boolean within(int low, int it, int high) {
        return low <= it && it <= high;
    }

    private static String told(long answer) {
        return Long.toString(answer);
    }

    private boolean isPiece(int piece) {
        return within(0, piece, pieces.size() - 1);
    }

    private boolean isPlayer(int player) {
        return within(0, player, abilities.size() - 1);
    }

    private boolean isPlace(int piece, int place) {
        return isPiece(piece) && within(1, place, pieces.get(piece).length);
    }

    private int[] version(int player, int piece) {
        return player == -1 ? pieces.get(piece) : versions.get(player + " of " + piece);
    }

    private int sound(int piece, int place) {
        int[] row = pieces.get(piece);
        for (int at = place - 1 + row.length; at >= place; at--) {
            if (row[at % row.length] != 0) {
                return row[at % row.length];
            }
        }
        return 0;
    }

    String call(String name, int... a) {
        switch (name) {
            case "form": return form(a[0]);
            case "depth": return depth(a[0], a[1]);
            case "piece": return piece(a[0]);
            case "tone": return tone(a[0], a[1], a[2]);
            case "forbid": return forbid(a[0], a[1]);
            case "sounds": return isPlace(a[0], a[1]) ? told(sound(a[0], a[1])) : INDEX;
            case "stroke": return stroke(a[0], a[1], a[2], a[3], a[4]);
            case "strokeAnew": return stroke(a[0], a[1], a[2], a[3], a[4]);
            case "begin": return begin(a[0]);
            case "drum": return drum(a[0]);
            case "beats": return beats(a[0]);
            case "now": return within(0, a[0], 5) ? told(now[a[0]]) : ARGUMENT;
            case "ticks": return told(ticks);
            case "strokes": return within(0, a[0], 3) ? told(strokes[a[0]]) : INDEX;
            case "days": return days(a[0]);
            case "pitch": return pitch(a[0], a[1], a[2]);
            case "drift": return drift(a[0], a[1]);
            case "years": return years(a[0]);
            case "tune": return tune(a[0], a[1]);
            case "beat": return beat(a[0], a[1], a[2]);
            case "player": return player(a[0]);
            case "learn": return learn(a[0], a[1], a[2]);
            case "slip": return slip(a[0], a[1], a[2], a[3]);
            case "unlike": return unlike(a[0], a[1], a[2]);
            case "covered": return covered(a[0]);
            default: throw new IllegalArgumentException(name);
        }
    }

    private String form(int length) {
        if (!within(4, length, 64) || length % 4 != 0) {
            return ARGUMENT;
        }
        if (lengths.size() == 4) {
            return STATE;
        }
        lengths.add(length);
        return told(lengths.size() - 1);
    }

    private String depth(int form, int place) {
        if (!within(0, form, lengths.size() - 1) || !within(1, place, lengths.get(form))) {
            return INDEX;
        }
        int length = lengths.get(form);
        for (int d = 0; d <= 30; d++) {
            int power = 1 << d;
            if (length % power == 0 && place % (length / power) == 0) {
                return told(d);
            }
        }
        return told(-1);
    }

    private String piece(int form) {
        if (!within(0, form, lengths.size() - 1)) {
            return INDEX;
        }
        if (pieces.size() == 6) {
            return STATE;
        }
        pieces.add(new int[lengths.get(form)]);
        forbidden.add(0);
        return told(pieces.size() - 1);
    }

    private String tone(int piece, int place, int tone) {
        if (!isPlace(piece, place)) {
            return INDEX;
        }
        if (!within(0, tone, 7)) {
            return ARGUMENT;
        }
        int before = pieces.get(piece)[place - 1];
        pieces.get(piece)[place - 1] = tone;
        return told(before);
    }

    private String forbid(int piece, int days) {
        if (!isPiece(piece)) {
            return INDEX;
        }
        return within(0, days, 31) ? told(forbidden.set(piece, days)) : ARGUMENT;
    }

    private String stroke(int piece, int part, int place, int level, int stroke) {
        if (!isPlace(piece, place) || !within(0, part, 3)) {
            return INDEX;
        }
        if (!within(0, level, 3) || !within(0, stroke, density(part, level) - 1)) {
            return ARGUMENT;
        }
        int pair = (place - 1) / 2;
        int x = sound(piece, 2 * pair + 1);
        int y = sound(piece, 2 * pair + 2);
        int t = stroke + (place - 1) % 2 * density(part, level);
        return told(strokesOfPair(part, level, x, y)[t]);
    }

    private String begin(int piece) {
        if (!isPiece(piece)) {
            return INDEX;
        }
        if (now[4] == 1 || (forbidden.get(piece) >> day) % 2 == 1) {
            return STATE;
        }
        int[] anew = {0, 20, 0, 0, 1, piece};
        System.arraycopy(anew, 0, now, 0, 6);
        tempo = 0;
        endGong = 0;
        begun++;
        return told(begun);
    }

    private String drum(int what) {
        if (!within(0, what, 4)) {
            return ARGUMENT;
        }
        if (now[4] == 0) {
            return STATE;
        }
        if (what < 3) {
            tempo = what;
        } else if (what == 4) {
            now[4] = 0;
        } else if (endGong == 0) {
            // The number of the gong of this piece that ends it.
            boolean inTime = 2 * now[0] <= pieces.get(now[5]).length;
            endGong = now[3] + (inTime ? 1 : 2);
        }
        return told(now[0]);
    }

    private String beats(int beats) {
        if (!within(1, beats, 100)) {
            return ARGUMENT;
        }
        if (now[4] == 0) {
            return STATE;
        }
        for (int played = 1; played <= beats; played++) {
            oneBeat();
            if (now[4] == 0) {
                return told(played);
            }
        }
        return told(beats);
    }

    private void oneBeat() {
        int length = pieces.get(now[5]).length;
        now[0] = now[0] % length + 1;
        ticks += now[1];
        for (int part = 0; part < 4; part++) {
            strokes[part] += density(part, now[2]);
        }
        if (tempo == 1 && now[1] < 160) {
            now[1] += 2;
        }
        if (tempo == 2 && now[1] > 10) {
            now[1] -= 2;
        }
        if (now[0] == length) {
            now[2] = levelOf(now[1]);
            now[3]++;
            if (now[3] == endGong) {
                now[4] = 0;
            }
        }
    }

    private String days(int days) {
        if (!within(1, days, 100)) {
            return ARGUMENT;
        }
        if (now[4] == 1) {
            return STATE;
        }
        for (int gone = 0; gone < days; gone++) {
            day = day == 4 ? 0 : day + 1;
        }
        return told(day);
    }

    private String pitch(int set, int tone, int pitch) {
        if (!within(0, set, 3) || !within(1, tone, 7)) {
            return INDEX;
        }
        if (!within(5000, pitch, 200000)) {
            return ARGUMENT;
        }
        int before = pitches[set][tone - 1];
        pitches[set][tone - 1] = pitch;
        return told(before);
    }

    private String drift(int set, int drift) {
        if (!within(0, set, 3)) {
            return INDEX;
        }
        if (!within(0, drift, 50)) {
            return ARGUMENT;
        }
        int before = drifts[set];
        drifts[set] = drift;
        return told(before);
    }

    private String years(int more) {
        if (!within(1, more, 30)) {
            return ARGUMENT;
        }
        if (years + more > 300) {
            return STATE;
        }
        years += more;
        for (int year = 0; year < more; year++) {
            for (int set = 0; set < 4; set++) {
                for (int tone = 0; tone < 7; tone++) {
                    int pitch = pitches[set][tone];
                    pitches[set][tone] = Math.max(5000, pitch - pitch * drifts[set] / 10000);
                }
            }
        }
        return told(years);
    }

    private String tune(int set, int other) {
        if (!within(0, set, 3) || !within(0, other, 3)) {
            return INDEX;
        }
        if (set == other) {
            return ARGUMENT;
        }
        java.math.BigInteger up = java.math.BigInteger.valueOf(pitches[other][0]);
        java.math.BigInteger down = java.math.BigInteger.valueOf(pitches[set][0]);
        for (int tone = 0; tone < 7; tone++) {
            java.math.BigInteger pitch = java.math.BigInteger.valueOf(pitches[set][tone]);
            int tuned = pitch.multiply(up).divide(down).intValueExact();
            pitches[set][tone] = tuned < 5000 ? 5000 : tuned > 200000 ? 200000 : tuned;
        }
        return told(pitches[set][0]);
    }

    private String beat(int set, int other, int tone) {
        if (!within(0, set, 3) || !within(0, other, 3) || !within(1, tone, 7)) {
            return INDEX;
        }
        int one = pitches[set][tone - 1];
        int two = pitches[other][tone - 1];
        return told(one > two ? one - two : two - one);
    }

    private String player(int parts) {
        if (!within(0, parts, 15)) {
            return ARGUMENT;
        }
        if (abilities.size() == 8) {
            return STATE;
        }
        abilities.add(parts);
        return told(abilities.size() - 1);
    }

    private String learn(int player, int piece, int of) {
        if (!isPlayer(player) || !isPiece(piece) || of != -1 && !isPlayer(of)) {
            return INDEX;
        }
        if (of == player) {
            return ARGUMENT;
        }
        if (version(of, piece) == null) {
            return STATE;
        }
        versions.put(player + " of " + piece, version(of, piece).clone());
        int knowers = 0;
        for (int one = 0; one < abilities.size(); one++) {
            knowers += version(one, piece) == null ? 0 : 1;
        }
        return told(knowers);
    }

    private String slip(int player, int piece, int place, int tone) {
        if (!isPlayer(player) || !isPlace(piece, place)) {
            return INDEX;
        }
        if (!within(0, tone, 7)) {
            return ARGUMENT;
        }
        int[] own = version(player, piece);
        if (own == null) {
            return STATE;
        }
        int before = own[place - 1];
        own[place - 1] = tone;
        return told(before);
    }

    private String unlike(int player, int other, int piece) {
        if (!isPlayer(player) || other != -1 && !isPlayer(other) || !isPiece(piece)) {
            return INDEX;
        }
        int[] one = version(player, piece);
        int[] two = version(other, piece);
        if (one == null || two == null) {
            return told(-1);
        }
        int count = 0;
        for (int at = 0; at < one.length; at++) {
            count += one[at] == two[at] ? 0 : 1;
        }
        return told(count);
    }

    private String covered(int piece) {
        if (!isPiece(piece)) {
            return INDEX;
        }
        List<Integer> ables = new ArrayList<>();
        for (int one = 0; one < abilities.size(); one++) {
            if (version(one, piece) != null) {
                ables.add(abilities.get(one));
            }
        }
        return told(mostCovered(ables.stream().mapToInt(Integer::intValue).toArray(), 0, 0));
    }
}
