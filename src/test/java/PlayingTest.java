/** Promises 10 to 16: begin, drum, beats, now, ticks, strokes, days. */
final class PlayingTest {
    private static final int MIN = Integer.MIN_VALUE;
    private static final int MAX = Integer.MAX_VALUE;

    private PlayingTest() {
    }

    public static void main(String[] args) {
        beginning();
        beginningAnew();
        forbiddenDays();
        drumRefused();
        drumAnswers();
        tempoHolds();
        tempoBounds();
        levels();
        strokesByLevel();
        levelAtAGongAlone();
        endInTime();
        endTooLate();
        endJustBehindAGong();
        endToldAgain();
        endDoesNotOutliveThePiece();
        cutting();
        beatsRefused();
        nowRefused();
        daysGoBy();
        Check.end();
    }

    private static GongCycles hall(int... lengths) {
        GongCycles hall = new GongCycles();
        for (int form = 0; form < lengths.length; form++) {
            hall.form(lengths[form]);
            hall.piece(form);
        }
        return hall;
    }

    private static void now(GongCycles hall, String call, int... due) {
        for (int what = 0; what < due.length; what++) {
            int which = what;
            Check.is("13: " + call + ", now " + what, due[what], () -> hall.now(which));
        }
    }

    private static void beginning() {
        GongCycles hall = hall(8, 4);
        Check.index("10: piece 2", () -> hall.begin(2));
        Check.index("10: piece -1", () -> hall.begin(-1));
        now(hall, "nothing begun", 0, 0, 0, 0, 0, -1);
        Check.is("10: the first", 1, () -> hall.begin(1));
        now(hall, "begun", 0, 20, 0, 0, 1, 1);
        Check.state("10: one is played", () -> hall.begin(0));
        Check.state("10: the same is played", () -> hall.begin(1));
        Check.index("10: no piece, though one is played", () -> hall.begin(2));
        Check.is("14: no beat yet", 0, hall::ticks);
        now(hall, "still that one", 0, 20, 0, 0, 1, 1);
        hall.drum(GongCycles.CUT);
        Check.is("10: the second", 2, () -> hall.begin(0));
        now(hall, "another one", 0, 20, 0, 0, 1, 0);
    }

    private static void beginningAnew() {
        GongCycles hall = hall(4, 8);
        hall.begin(0);
        hall.drum(GongCycles.SLOW);
        hall.beats(40);
        now(hall, "slowed", 4, 100, 2, 10, 1, 0);
        hall.beats(2);
        hall.drum(GongCycles.CUT);
        now(hall, "cut", 2, 104, 2, 10, 0, 0);
        Check.is("10: anew", 2, () -> hall.begin(1));
        now(hall, "anew", 0, 20, 0, 0, 1, 1);
        Check.is("12: holds anew", 8, () -> hall.beats(8));
        now(hall, "held", 8, 20, 0, 1, 1, 1);
    }

    private static void forbiddenDays() {
        GongCycles hall = hall(4, 4);
        hall.forbid(0, 1 | 8);
        Check.state("10: forbidden today", () -> hall.begin(0));
        Check.index("10: no such piece", () -> hall.begin(2));
        now(hall, "not begun", 0, 0, 0, 0, 0, -1);
        Check.is("10: the other is not", 1, () -> hall.begin(1));
        hall.drum(GongCycles.CUT);
        Check.is("16: day 1", 1, () -> hall.days(1));
        Check.is("10: not on day 1", 2, () -> hall.begin(0));
        hall.drum(GongCycles.CUT);
        Check.is("16: day 3", 3, () -> hall.days(2));
        Check.state("10: on day 3", () -> hall.begin(0));
        Check.is("16: day 0", 0, () -> hall.days(2));
        Check.state("10: on day 0 again", () -> hall.begin(0));
        Check.is("6: both", 9, () -> hall.forbid(0, 0));
        Check.is("10: no longer; those refused do not count", 3, () -> hall.begin(0));
    }

    private static void drumRefused() {
        GongCycles hall = hall(4);
        Check.argument("11: 5", () -> hall.drum(5));
        Check.argument("11: -1", () -> hall.drum(-1));
        Check.argument("11: MAX", () -> hall.drum(MAX));
        for (int what = 0; what <= 4; what++) {
            int told = what;
            Check.state("11: nothing is played, " + what, () -> hall.drum(told));
        }
        hall.begin(0);
        Check.argument("11: 5 in a piece", () -> hall.drum(5));
        Check.argument("11: MIN in a piece", () -> hall.drum(MIN));
        now(hall, "unchanged", 0, 20, 0, 0, 1, 0);
        hall.drum(GongCycles.END);
        hall.beats(4);
        Check.state("11: it has ended", () -> hall.drum(GongCycles.HOLD));
        Check.argument("11: it has ended, 5", () -> hall.drum(5));
    }

    private static void drumAnswers() {
        GongCycles hall = hall(8);
        hall.begin(0);
        for (int what = 0; what < 3; what++) {
            int told = what;
            Check.is("11: ahead of the first place", 0, () -> hall.drum(told));
        }
        for (int place = 1; place <= 8; place++) {
            int due = place;
            hall.beats(1);
            Check.is("11: place " + place, due, () -> hall.drum(due % 3));
        }
        hall.beats(1);
        Check.is("11: the first place again", 1, () -> hall.drum(GongCycles.END));
        Check.is("11: told again", 1, () -> hall.drum(GongCycles.END));
        Check.is("11: cut", 1, () -> hall.drum(GongCycles.CUT));
    }

    private static void tempoHolds() {
        GongCycles hall = hall(64);
        hall.begin(0);
        hall.beats(3);
        now(hall, "held from the start", 3, 20, 0, 0, 1, 0);
        Check.is("14: three of 20", 60, hall::ticks);
        hall.drum(GongCycles.SLOW);
        now(hall, "told, no beat yet", 3, 20, 0, 0, 1, 0);
        hall.beats(1);
        Check.is("14: the length grows behind the beat", 80, hall::ticks);
        now(hall, "slowed", 4, 22, 0, 0, 1, 0);
        hall.beats(3);
        now(hall, "it goes on to slow", 7, 28, 0, 0, 1, 0);
        Check.is("14: 22, 24, 26", 152, hall::ticks);
        hall.drum(GongCycles.END);
        hall.beats(1);
        now(hall, "the end leaves the tempo", 8, 30, 0, 0, 1, 0);
        hall.drum(GongCycles.HASTEN);
        hall.beats(2);
        now(hall, "hastened", 10, 26, 0, 0, 1, 0);
        hall.drum(GongCycles.HOLD);
        hall.beats(5);
        now(hall, "held", 15, 26, 0, 0, 1, 0);
        Check.is("14: 28, 30, 28, and five of 26", 368, hall::ticks);
    }

    private static void tempoBounds() {
        GongCycles hall = hall(64);
        hall.begin(0);
        hall.drum(GongCycles.HASTEN);
        hall.beats(4);
        now(hall, "hastened", 4, 12, 0, 0, 1, 0);
        hall.beats(1);
        now(hall, "the shortest", 5, 10, 0, 0, 1, 0);
        hall.beats(5);
        now(hall, "down to 10", 10, 10, 0, 0, 1, 0);
        Check.is("14: 20, 18, 16, 14, 12, 10 ..", 130, hall::ticks);
        hall.drum(GongCycles.SLOW);
        hall.beats(74);
        now(hall, "near the longest", 20, 158, 2, 1, 1, 0);
        hall.beats(1);
        now(hall, "the longest", 21, 160, 2, 1, 1, 0);
        hall.beats(9);
        now(hall, "up to 160", 30, 160, 2, 1, 1, 0);
    }

    /** The gongs of a form of 4, slowed: the length behind each gong, and the level that it makes. */
    private static void levels() {
        GongCycles hall = hall(4);
        hall.begin(0);
        hall.drum(GongCycles.SLOW);
        for (int gong = 1; gong <= 20; gong++) {
            hall.beats(4);
            int length = Math.min(20 + 8 * gong, 160);
            now(hall, "gong " + gong, 4, length, Model.levelOf(length), gong, 1, 0);
        }
        hall.drum(GongCycles.HASTEN);
        for (int gong = 21; gong <= 42; gong++) {
            hall.beats(4);
            int length = Math.max(160 - 8 * (gong - 20), 10);
            now(hall, "gong " + gong, 4, length, Model.levelOf(length), gong, 1, 0);
        }
        exactLength(40, 1);
        exactLength(38, 0);
        exactLength(80, 2);
        exactLength(78, 1);
        exactLength(160, 3);
        exactLength(158, 2);
    }

    /** A gong with just this length, that the beat of the gong itself has made. */
    private static void exactLength(int length, int level) {
        GongCycles hall = hall(4);
        int slowed = (length - 20) / 2;
        hall.begin(0);
        for (int ahead = (4 - slowed % 4) % 4; ahead > 0; ahead--) {
            hall.beats(1);
        }
        hall.drum(GongCycles.SLOW);
        hall.beats(slowed);
        Check.is("13: at the gong", 4, () -> hall.now(0));
        Check.is("13: length " + length, length, () -> hall.now(1));
        Check.is("13: level of " + length, level, () -> hall.now(2));
    }

    private static void strokesByLevel() {
        GongCycles hall = hall(4);
        hall.begin(0);
        hall.drum(GongCycles.SLOW);
        strokes(hall, "none yet", 0, 0, 0, 0);
        hall.beats(12);
        strokes(hall, "the gong itself has the level ahead of it", 12, 24, 12, 24);
        Check.is("13: level 1", 1, () -> hall.now(2));
        hall.beats(1);
        strokes(hall, "level 1", 13, 28, 14, 28);
        hall.beats(18);
        strokes(hall, "level 1 still", 31, 100, 50, 100);
        hall.beats(1);
        Check.is("13: level 2", 2, () -> hall.now(2));
        hall.beats(1);
        strokes(hall, "level 2", 33, 112, 56, 112);
        hall.beats(39);
        Check.is("13: level 3", 3, () -> hall.now(2));
        hall.beats(1);
        strokes(hall, "level 3", 73, 440, 220, 440);
        hall.drum(GongCycles.CUT);
        strokes(hall, "cut", 73, 440, 220, 440);
        hall.begin(0);
        strokes(hall, "begun anew", 73, 440, 220, 440);
        hall.beats(1);
        strokes(hall, "of all pieces", 74, 442, 221, 442);
        Check.index("15: part 4", () -> hall.strokes(4));
        Check.index("15: part -1", () -> hall.strokes(-1));
        Check.index("15: part MAX", () -> hall.strokes(MAX));
    }

    private static void strokes(GongCycles hall, String call, long... due) {
        for (int part = 0; part < 4; part++) {
            int which = part;
            Check.is("15: " + call + ", part " + part, due[part], () -> hall.strokes(which));
        }
    }

    private static void levelAtAGongAlone() {
        GongCycles hall = hall(64);
        hall.begin(0);
        hall.drum(GongCycles.SLOW);
        hall.beats(63);
        now(hall, "just ahead of the gong", 63, 146, 0, 0, 1, 0);
        hall.beats(1);
        now(hall, "the gong", 64, 148, 2, 1, 1, 0);
        hall.drum(GongCycles.HASTEN);
        hall.beats(63);
        now(hall, "just ahead of the next", 63, 22, 2, 1, 1, 0);
        hall.beats(1);
        now(hall, "the next", 64, 20, 0, 2, 1, 0);
    }

    private static void endInTime() {
        for (int told = 0; told <= 4; told++) {
            GongCycles hall = hall(8);
            hall.begin(0);
            if (told > 0) {
                hall.beats(told);
            }
            int place = told;
            Check.is("11: end at " + told, told, () -> hall.drum(GongCycles.END));
            Check.is("12: to the gong", 8 - place, () -> hall.beats(100));
            now(hall, "ended", 8, 20, 0, 1, 0, 0);
            Check.state("12: no more", () -> hall.beats(1));
        }
    }

    private static void endTooLate() {
        for (int told = 5; told <= 7; told++) {
            GongCycles hall = hall(8);
            hall.begin(0);
            hall.beats(told);
            int place = told;
            Check.is("11: end at " + told, told, () -> hall.drum(GongCycles.END));
            Check.is("12: to the gong behind", 16 - place, () -> hall.beats(100));
            now(hall, "ended late", 8, 20, 0, 2, 0, 0);
        }
    }

    private static void endJustBehindAGong() {
        GongCycles hall = hall(12);
        hall.begin(0);
        hall.beats(36);
        Check.is("11: just behind a gong", 12, () -> hall.drum(GongCycles.END));
        Check.is("12: the next gong passes", 12, () -> hall.beats(12));
        now(hall, "it goes on", 12, 20, 0, 4, 1, 0);
        Check.is("12: the one behind it ends", 12, () -> hall.beats(13));
        now(hall, "ended", 12, 20, 0, 5, 0, 0);
        GongCycles half = hall(12);
        half.begin(0);
        half.beats(18);
        half.drum(GongCycles.END);
        Check.is("12: half the length is in time", 6, () -> half.beats(100));
        GongCycles over = hall(12);
        over.begin(0);
        over.beats(19);
        over.drum(GongCycles.END);
        Check.is("12: one more is not", 17, () -> over.beats(100));
    }

    private static void endToldAgain() {
        GongCycles hall = hall(8);
        hall.begin(0);
        hall.beats(2);
        hall.drum(GongCycles.END);
        hall.beats(4);
        Check.is("11: again, now late", 6, () -> hall.drum(GongCycles.END));
        Check.is("12: it stays with the first telling", 2, () -> hall.beats(100));
        GongCycles late = hall(8);
        late.begin(0);
        late.beats(6);
        late.drum(GongCycles.END);
        late.beats(4);
        Check.is("11: again, now in time", 2, () -> late.drum(GongCycles.END));
        Check.is("12: in the cycle for which it was told", 6, () -> late.beats(100));
        GongCycles behind = hall(8);
        behind.begin(0);
        behind.beats(6);
        behind.drum(GongCycles.END);
        Check.is("12: past the first gong", 9, () -> behind.beats(9));
        Check.is("11: again, behind half of the last cycle", 7, () -> behind.drum(GongCycles.END));
        Check.is("12: told again, late, it does nothing", 1, () -> behind.beats(100));
        GongCycles anew = hall(8);
        anew.begin(0);
        anew.beats(1);
        anew.drum(GongCycles.END);
        anew.drum(GongCycles.HOLD);
        anew.drum(GongCycles.SLOW);
        Check.is("12: another telling leaves the end", 7, () -> anew.beats(100));
    }

    private static void endDoesNotOutliveThePiece() {
        GongCycles hall = hall(8);
        hall.begin(0);
        hall.drum(GongCycles.END);
        hall.drum(GongCycles.CUT);
        hall.begin(0);
        Check.is("12: no end is told", 100, () -> hall.beats(100));
        hall.drum(GongCycles.CUT);
        hall.begin(0);
        hall.drum(GongCycles.END);
        hall.beats(8);
        hall.begin(0);
        Check.is("12: nor behind an end", 100, () -> hall.beats(100));
    }

    private static void cutting() {
        GongCycles hall = hall(8);
        hall.begin(0);
        Check.is("11: cut ahead of the first place", 0, () -> hall.drum(GongCycles.CUT));
        now(hall, "cut at once", 0, 20, 0, 0, 0, 0);
        hall.begin(0);
        hall.drum(GongCycles.SLOW);
        hall.beats(11);
        Check.is("11: cut", 3, () -> hall.drum(GongCycles.CUT));
        now(hall, "cut", 3, 42, 0, 1, 0, 0);
        Check.is("14: ticks stay", 20 * 11 + 110, hall::ticks);
        Check.state("11: cut again", () -> hall.drum(GongCycles.CUT));
        Check.state("12: no beats", () -> hall.beats(1));
    }

    private static void beatsRefused() {
        GongCycles hall = hall(8);
        Check.argument("12: 0, nothing played", () -> hall.beats(0));
        Check.argument("12: 101, nothing played", () -> hall.beats(101));
        Check.state("12: 1, nothing played", () -> hall.beats(1));
        Check.state("12: 100, nothing played", () -> hall.beats(100));
        hall.begin(0);
        Check.argument("12: 0", () -> hall.beats(0));
        Check.argument("12: 101", () -> hall.beats(101));
        Check.argument("12: -1", () -> hall.beats(-1));
        Check.argument("12: MAX", () -> hall.beats(MAX));
        now(hall, "unchanged", 0, 20, 0, 0, 1, 0);
        Check.is("14: unchanged", 0, hall::ticks);
        Check.is("12: 1", 1, () -> hall.beats(1));
        Check.is("12: 100", 100, () -> hall.beats(100));
        now(hall, "played", 5, 20, 0, 12, 1, 0);
    }

    private static void nowRefused() {
        GongCycles hall = hall(4);
        Check.argument("13: 6", () -> hall.now(6));
        Check.argument("13: -1", () -> hall.now(-1));
        Check.argument("13: MAX", () -> hall.now(MAX));
        Check.argument("13: MIN", () -> hall.now(MIN));
    }

    private static void daysGoBy() {
        GongCycles hall = hall(4);
        Check.argument("16: 0", () -> hall.days(0));
        Check.argument("16: 101", () -> hall.days(101));
        Check.argument("16: -1", () -> hall.days(-1));
        Check.argument("16: MAX", () -> hall.days(MAX));
        Check.is("16: from 0 on", 4, () -> hall.days(4));
        Check.is("16: around", 0, () -> hall.days(1));
        Check.is("16: a week", 0, () -> hall.days(5));
        Check.is("16: 100", 0, () -> hall.days(100));
        Check.is("16: 99", 4, () -> hall.days(99));
        hall.begin(0);
        Check.state("16: in a piece", () -> hall.days(1));
        Check.argument("16: 101 in a piece", () -> hall.days(101));
        hall.drum(GongCycles.CUT);
        Check.is("16: unchanged", 1, () -> hall.days(2));
    }
}
