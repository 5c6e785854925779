/** Promises 1 to 9: a new object, form, depth, piece, tone, forbid, sounds, stroke, strokeAnew. */
final class FormsTest {
    private static final int MIN = Integer.MIN_VALUE;
    private static final int MAX = Integer.MAX_VALUE;

    private FormsTest() {
    }

    public static void main(String[] args) {
        newObject();
        forms();
        depths();
        pieces();
        tones();
        forbidding();
        sounding();
        strokesByHand();
        strokesOfSeveralPairs();
        strokesOfAllPairs();
        strokesOfRests();
        refusedStrokes();
        Check.end();
    }

    /** A hall with one form and one piece of it with these tones. */
    private static GongCycles hallWith(int... tones) {
        GongCycles hall = new GongCycles();
        hall.form(tones.length);
        hall.piece(0);
        for (int at = 0; at < tones.length; at++) {
            hall.tone(0, at + 1, tones[at]);
        }
        return hall;
    }

    private static void newObject() {
        GongCycles hall = new GongCycles();
        Check.index("1: no form", () -> hall.depth(0, 1));
        Check.index("1: no form for a piece", () -> hall.piece(0));
        Check.index("1: no piece", () -> hall.sounds(0, 1));
        Check.index("1: no piece to begin", () -> hall.begin(0));
        Check.index("1: no piece to cover", () -> hall.covered(0));
        Check.index("1: no player", () -> hall.learn(0, 0, GongCycles.NONE));
        Check.state("1: nothing is played", () -> hall.drum(GongCycles.HOLD));
        Check.state("1: no beats", () -> hall.beats(1));
        Check.is("1: ticks", 0, hall::ticks);
        for (int what = 0; what < 5; what++) {
            int which = what;
            Check.is("1: now " + what, 0, () -> hall.now(which));
        }
        Check.is("1: no piece now", GongCycles.NONE, () -> hall.now(5));
        for (int part = 0; part < 4; part++) {
            int which = part;
            Check.is("1: strokes " + part, 0, () -> hall.strokes(which));
        }
    }

    private static void forms() {
        for (int length = -8; length <= 72; length++) {
            GongCycles hall = new GongCycles();
            int tried = length;
            if (length >= 4 && length <= 64 && length % 4 == 0) {
                Check.is("2: form " + length, 0, () -> hall.form(tried));
                Check.is("2: its last place " + length, 0, () -> hall.depth(0, tried));
                Check.index("2: behind it " + length, () -> hall.depth(0, tried + 1));
            } else {
                Check.argument("2: form " + length, () -> hall.form(tried));
                Check.index("2: none added " + length, () -> hall.depth(0, 1));
                Check.is("2: the number is still free", 0, () -> hall.form(4));
            }
        }
        GongCycles hall = new GongCycles();
        Check.argument("2: form MIN", () -> hall.form(MIN));
        Check.argument("2: form MAX", () -> hall.form(MAX));
        for (int form = 0; form < 4; form++) {
            int due = form;
            Check.is("2: form number " + form, form, () -> hall.form(8 + 4 * due));
        }
        Check.state("2: a fifth form", () -> hall.form(4));
        Check.argument("2: a fifth form of a bad length", () -> hall.form(5));
        Check.index("2: no fifth form", () -> hall.depth(4, 1));
        Check.is("2: the fourth stands", 0, () -> hall.depth(3, 20));
        Check.index("2: the fourth is 20 long", () -> hall.depth(3, 21));
    }

    private static void depths() {
        int[][] due = {
            {2, 1, 2, 0},
            {3, 2, 3, 1, 3, 2, 3, 0},
            {-1, -1, 2, -1, -1, 1, -1, -1, 2, -1, -1, 0},
        };
        GongCycles hall = new GongCycles();
        for (int[] row : due) {
            hall.form(row.length);
        }
        hall.form(64);
        for (int form = 0; form < due.length; form++) {
            for (int place = 1; place <= due[form].length; place++) {
                int f = form;
                int p = place;
                Check.is("3: depth " + f + " " + p, due[f][p - 1], () -> hall.depth(f, p));
            }
        }
        Check.is("3: 64 of 64", 0, () -> hall.depth(3, 64));
        Check.is("3: 32 of 64", 1, () -> hall.depth(3, 32));
        Check.is("3: 48 of 64", 2, () -> hall.depth(3, 48));
        Check.is("3: 8 of 64", 3, () -> hall.depth(3, 8));
        Check.is("3: 4 of 64", 4, () -> hall.depth(3, 4));
        Check.is("3: 62 of 64", 5, () -> hall.depth(3, 62));
        Check.is("3: 63 of 64", 6, () -> hall.depth(3, 63));
        Check.index("3: place 0", () -> hall.depth(0, 0));
        Check.index("3: place 5 of 4", () -> hall.depth(0, 5));
        Check.index("3: place MIN", () -> hall.depth(0, MIN));
        Check.index("3: place MAX", () -> hall.depth(0, MAX));
        Check.index("3: form -1", () -> hall.depth(-1, 1));
        Check.index("3: form 4", () -> hall.depth(4, 1));
        Check.index("3: form MIN", () -> hall.depth(MIN, 1));
        Check.index("3: form MAX", () -> hall.depth(MAX, 1));
    }

    private static void pieces() {
        GongCycles hall = new GongCycles();
        hall.form(8);
        hall.form(4);
        Check.index("4: no form 2", () -> hall.piece(2));
        Check.index("4: no form -1", () -> hall.piece(-1));
        for (int piece = 0; piece < 6; piece++) {
            int due = piece;
            Check.is("4: piece " + piece, piece, () -> hall.piece(due % 2));
            int length = piece % 2 == 0 ? 8 : 4;
            for (int place = 1; place <= length; place++) {
                int p = place;
                Check.is("4: a rest at " + p, 0, () -> hall.tone(due, p, 0));
            }
            Check.index("4: it has its form's length", () -> hall.tone(due, length + 1, 0));
        }
        Check.state("4: a seventh piece", () -> hall.piece(0));
        Check.index("4: a seventh piece without a form", () -> hall.piece(2));
        Check.index("4: no seventh piece", () -> hall.sounds(6, 1));
    }

    private static void tones() {
        GongCycles hall = new GongCycles();
        hall.form(4);
        hall.piece(0);
        hall.piece(0);
        Check.is("5: the first tone", 0, () -> hall.tone(0, 1, 7));
        Check.is("5: the one before", 7, () -> hall.tone(0, 1, 3));
        Check.is("5: the last place", 0, () -> hall.tone(0, 4, 1));
        Check.is("5: the other piece has its own", 0, () -> hall.tone(1, 1, 5));
        Check.argument("5: tone 8", () -> hall.tone(0, 1, 8));
        Check.argument("5: tone -1", () -> hall.tone(0, 1, -1));
        Check.argument("5: tone MAX", () -> hall.tone(0, 1, MAX));
        Check.argument("5: tone MIN", () -> hall.tone(0, 1, MIN));
        Check.index("5: place 0", () -> hall.tone(0, 0, 1));
        Check.index("5: place 5", () -> hall.tone(0, 5, 1));
        Check.index("5: place ahead of tone", () -> hall.tone(0, 5, 8));
        Check.index("5: piece 2", () -> hall.tone(2, 1, 1));
        Check.index("5: piece -1", () -> hall.tone(-1, 1, 1));
        Check.index("5: piece ahead of tone", () -> hall.tone(2, 1, 8));
        Check.is("5: a rest again", 3, () -> hall.tone(0, 1, 0));
        Check.is("5: the rest was set", 0, () -> hall.tone(0, 1, 2));
        Check.is("5: the last one stays", 1, () -> hall.tone(0, 4, 1));
    }

    private static void forbidding() {
        GongCycles hall = new GongCycles();
        hall.form(4);
        hall.piece(0);
        hall.piece(0);
        Check.is("6: none at first", 0, () -> hall.forbid(0, 31));
        Check.is("6: all", 31, () -> hall.forbid(0, 10));
        Check.is("6: in place of them", 10, () -> hall.forbid(0, 10));
        Check.is("6: the other piece", 0, () -> hall.forbid(1, 0));
        Check.argument("6: 32", () -> hall.forbid(0, 32));
        Check.argument("6: -1", () -> hall.forbid(0, -1));
        Check.argument("6: MIN", () -> hall.forbid(0, MIN));
        Check.index("6: piece 2", () -> hall.forbid(2, 0));
        Check.index("6: piece ahead of days", () -> hall.forbid(-1, 32));
        Check.is("6: a call that throws changes nothing", 10, () -> hall.forbid(0, 10));
        for (int day = 0; day < 5; day++) {
            String call = "6: day " + day;
            if (day == 1 || day == 3) {
                Check.state(call, () -> hall.begin(0));
            } else {
                Check.same(call, Check.answerOf(() -> hall.begin(0) > 0 ? 1 : 0), "1");
                hall.forbid(0, 31);
                Check.is("6: it goes on, though forbidden then", 1, () -> hall.beats(1));
                hall.forbid(0, 10);
                hall.drum(GongCycles.CUT);
            }
            hall.days(1);
        }
    }

    private static void sounding() {
        GongCycles hall = hallWith(0, 3, 0, 0, 6, 0, 0, 0);
        int[] due = {6, 3, 3, 3, 6, 6, 6, 6};
        for (int place = 1; place <= 8; place++) {
            int p = place;
            Check.is("7: sounds at " + p, due[p - 1], () -> hall.sounds(0, p));
        }
        GongCycles last = hallWith(0, 0, 0, 7);
        Check.is("7: the last place is ahead of the first", 7, () -> last.sounds(0, 1));
        Check.is("7: and of the third", 7, () -> last.sounds(0, 3));
        GongCycles own = hallWith(0, 0, 2, 0);
        Check.is("7: around to the place behind it", 2, () -> own.sounds(0, 2));
        GongCycles early = hallWith(4, 0, 0, 5);
        Check.is("7: the first place is ahead of the second", 4, () -> early.sounds(0, 2));
        Check.is("7: and of the third, ahead of the last", 4, () -> early.sounds(0, 3));
        GongCycles rests = hallWith(0, 0, 0, 0);
        for (int place = 1; place <= 4; place++) {
            int p = place;
            Check.is("7: rests at " + p, 0, () -> rests.sounds(0, p));
        }
        Check.index("7: place 0", () -> rests.sounds(0, 0));
        Check.index("7: place 5", () -> rests.sounds(0, 5));
        Check.index("7: piece 1", () -> rests.sounds(1, 1));
        Check.index("7: piece -1", () -> rests.sounds(-1, 1));
        rests.tone(0, 3, 4);
        Check.is("7: a tone set later", 4, () -> rests.sounds(0, 2));
        rests.tone(0, 3, 0);
        Check.is("7: and taken away", 0, () -> rests.sounds(0, 2));
    }

    /** Strokes of one pair, written out; the numbers of the levels stand in front. */
    private static void strokesByHand() {
        pair(GongCycles.BASE, 0, 2, 7, 2, 7);
        pair(GongCycles.BASE, 3, 2, 7, 2, 7);
        pair(GongCycles.TWIN, 0, 2, 7, 2, 2, 7, 7);
        pair(GongCycles.TWIN, 1, 2, 7, 2, 2, 7, 7, 2, 2, 7, 7);
        pair(GongCycles.TURN, 0, 2, 7, 2, 7);
        pair(GongCycles.TURN, 1, 2, 7, 2, 7, 2, 7);
        pair(GongCycles.TURN, 2, 2, 7, 2, 7, 2, 7, 2, 7, 2, 7);
        pair(GongCycles.WALK, 0, 2, 7, 2, 3, 4, 7);
        pair(GongCycles.WALK, 0, 7, 2, 7, 6, 5, 2);
        pair(GongCycles.WALK, 1, 2, 7, 2, 3, 4, 5, 6, 7, 7, 7);
        pair(GongCycles.WALK, 1, 7, 1, 7, 6, 5, 4, 3, 2, 1, 1);
        pair(GongCycles.WALK, 0, 4, 4, 4, 4, 4, 4);
        pair(GongCycles.WALK, 0, 4, 5, 4, 5, 5, 5);
        pair(GongCycles.WALK, 2, 1, 3, 1, 2, 3, 3, 3, 3, 3, 3, 3, 3, 3, 3, 3, 3, 3, 3);
    }

    private static void pair(int part, int level, int x, int y, int... due) {
        GongCycles hall = hallWith(5, 6, x, y);
        int density = due.length / 2;
        for (int t = 0; t < due.length; t++) {
            int place = 3 + t / density;
            int stroke = t % density;
            String call = part + " level " + level + " of " + x + " and " + y + " at " + t;
            int tone = due[t];
            Check.is("8: " + call, tone, () -> hall.stroke(0, part, place, level, stroke));
            Check.is("9: " + call, tone, () -> hall.strokeAnew(0, part, place, level, stroke));
        }
        Check.argument("8: behind them", () -> hall.stroke(0, part, 3, level, density));
        Check.argument("9: behind them", () -> hall.strokeAnew(0, part, 4, level, density));
    }

    /** Each pair goes by its own two places, and not by those beside it. */
    private static void strokesOfSeveralPairs() {
        int[] tones = {1, 7, 3, 5, 6, 2, 0, 4};
        int[] sounding = {1, 7, 3, 5, 6, 2, 2, 4};
        for (int first = 1; first < 8; first += 2) {
            for (int part = 0; part < 4; part++) {
                int[] due = Model.strokesOfPair(part, 2, sounding[first - 1], sounding[first]);
                allStrokes(hallWith(tones), part, 2, first, due);
            }
        }
    }

    private static void strokesOfAllPairs() {
        for (int x = 1; x <= 7; x++) {
            for (int y = 1; y <= 7; y++) {
                GongCycles first = hallWith(x, y, 0, 0);
                for (int part = 0; part < 4; part++) {
                    for (int level = 0; level < 4; level++) {
                        allStrokes(first, part, level, 1, Model.strokesOfPair(part, level, x, y));
                        first = hallWith(x, y, 0, 0);
                        allStrokes(first, part, level, 3, Model.strokesOfPair(part, level, y, y));
                        first = hallWith(x, y, 0, 0);
                    }
                }
            }
        }
    }

    private static void allStrokes(GongCycles hall, int part, int level, int first, int[] due) {
        int density = due.length / 2;
        for (int t = 0; t < due.length; t++) {
            int place = first + t / density;
            int stroke = t % density;
            String call = "part " + part + " level " + level + " place " + place + " at " + stroke;
            int tone = due[t];
            Check.is("8: " + call, tone, () -> hall.stroke(0, part, place, level, stroke));
            Check.is("9: " + call, tone, () -> hall.strokeAnew(0, part, place, level, stroke));
        }
    }

    private static void strokesOfRests() {
        for (int part = 0; part < 4; part++) {
            for (int level = 0; level < 4; level++) {
                int density = Model.density(part, level);
                allStrokes(hallWith(0, 0, 0, 0), part, level, 3, new int[2 * density]);
            }
        }
    }

    private static void refusedStrokes() {
        GongCycles hall = hallWith(1, 2, 3, 4);
        int[][] noPlace = {
            {1, 0, 1, 0, 0}, {-1, 0, 1, 0, 0}, {MAX, 0, 1, 0, 0}, {0, 4, 1, 0, 0},
            {0, -1, 1, 0, 0}, {0, MIN, 1, 0, 0}, {0, 0, 0, 0, 0}, {0, 0, 5, 0, 0},
            {0, 0, MAX, 0, 0}, {1, 0, 1, 4, 0}, {0, 4, 1, 0, -1}, {0, 0, 5, -1, 9},
        };
        for (int[] a : noPlace) {
            Check.index("8: refused", () -> hall.stroke(a[0], a[1], a[2], a[3], a[4]));
            Check.index("9: refused", () -> hall.strokeAnew(a[0], a[1], a[2], a[3], a[4]));
        }
        int[][] outOfRange = {
            {0, 0, 1, 4, 0}, {0, 0, 1, -1, 0}, {0, 3, 1, 31, 0}, {0, 1, 1, MAX, 0},
            {0, 0, 1, 0, -1}, {0, 0, 1, 0, 1}, {0, 1, 2, 0, 2}, {0, 2, 3, 3, 8},
            {0, 3, 4, 3, 16}, {0, 3, 4, 3, MAX}, {0, 2, 4, 0, MIN},
        };
        for (int[] a : outOfRange) {
            Check.argument("8: refused", () -> hall.stroke(a[0], a[1], a[2], a[3], a[4]));
            Check.argument("9: refused", () -> hall.strokeAnew(a[0], a[1], a[2], a[3], a[4]));
        }
    }
}
