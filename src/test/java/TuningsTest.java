/** Promises 17 to 21: pitch, drift, years, tune, beat. */
final class TuningsTest {
    private static final int MIN = Integer.MIN_VALUE;
    private static final int MAX = Integer.MAX_VALUE;

    private TuningsTest() {
    }

    public static void main(String[] args) {
        pitches();
        drifts();
        years();
        yearsAreCounted();
        yearsInAPiece();
        tuning();
        tuningRefused();
        beats();
        Check.end();
    }

    private static void pitches() {
        GongCycles hall = new GongCycles();
        for (int set = 0; set < 4; set++) {
            for (int tone = 1; tone <= 7; tone++) {
                int s = set;
                int t = tone;
                Check.is("17: at first", 44000, () -> hall.pitch(s, t, 5000 + 100 * s + t));
            }
        }
        for (int set = 0; set < 4; set++) {
            for (int tone = 1; tone <= 7; tone++) {
                int s = set;
                int t = tone;
                Check.is("17: before", 5000 + 100 * s + t, () -> hall.pitch(s, t, 200000));
            }
        }
        Check.argument("17: 4999", () -> hall.pitch(0, 1, 4999));
        Check.argument("17: 200001", () -> hall.pitch(0, 1, 200001));
        Check.argument("17: MIN", () -> hall.pitch(0, 1, MIN));
        Check.index("17: set 4", () -> hall.pitch(4, 1, 5000));
        Check.index("17: set -1", () -> hall.pitch(-1, 1, 5000));
        Check.index("17: set MAX", () -> hall.pitch(MAX, 1, 5000));
        Check.index("17: tone 0", () -> hall.pitch(0, 0, 5000));
        Check.index("17: tone 8", () -> hall.pitch(0, 8, 5000));
        Check.index("17: tone MIN", () -> hall.pitch(0, MIN, 5000));
        Check.index("17: set ahead of pitch", () -> hall.pitch(4, 1, 4999));
        Check.index("17: tone ahead of pitch", () -> hall.pitch(0, 8, 4999));
        Check.is("17: unchanged", 200000, () -> hall.pitch(0, 1, 5000));
        Check.is("17: 5000", 5000, () -> hall.pitch(0, 1, 44000));
    }

    private static void drifts() {
        GongCycles hall = new GongCycles();
        Check.is("18: at first", 0, () -> hall.drift(0, 50));
        Check.is("18: before", 50, () -> hall.drift(0, 7));
        Check.is("18: another set", 0, () -> hall.drift(3, 1));
        Check.argument("18: 51", () -> hall.drift(0, 51));
        Check.argument("18: -1", () -> hall.drift(0, -1));
        Check.argument("18: MIN", () -> hall.drift(0, MIN));
        Check.index("18: set 4", () -> hall.drift(4, 1));
        Check.index("18: set -1", () -> hall.drift(-1, 1));
        Check.index("18: set ahead of drift", () -> hall.drift(4, 51));
        Check.is("18: unchanged", 7, () -> hall.drift(0, 0));
    }

    private static void years() {
        GongCycles hall = new GongCycles();
        hall.drift(0, 50);
        hall.drift(1, 10);
        hall.drift(2, 1);
        hall.pitch(0, 2, 5025);
        hall.pitch(0, 3, 5024);
        hall.pitch(2, 2, 9999);
        hall.pitch(2, 3, 10000);
        hall.pitch(1, 4, 200000);
        Check.is("19: one year", 1, () -> hall.years(1));
        Check.is("19: 50 of 10000", 43780, () -> hall.pitch(0, 1, 44000));
        Check.is("19: what is lost is rounded down", 5000, () -> hall.pitch(0, 2, 44000));
        Check.is("19: not below 5000", 5000, () -> hall.pitch(0, 3, 44000));
        Check.is("19: 10 of 10000", 43956, () -> hall.pitch(1, 1, 44000));
        Check.is("19: a high one", 199800, () -> hall.pitch(1, 4, 200000));
        Check.is("19: 1 of 10000, less than one lost", 9999, () -> hall.pitch(2, 2, 9999));
        Check.is("19: 1 of 10000, one lost", 9999, () -> hall.pitch(2, 3, 20001));
        Check.is("19: 44000 by 1", 43996, () -> hall.pitch(2, 1, 44000));
        Check.is("19: no drift", 44000, () -> hall.pitch(3, 1, 44000));
        Check.is("19: two years", 3, () -> hall.years(2));
        // 44000 loses 220, and 43780 loses 218 (218.9 rounded down).
        Check.is("19: year by year", 43562, () -> hall.pitch(0, 1, 5000));
        // 20001 loses 2, and 19999 loses 1.
        Check.is("19: year by year, rounded each", 19998, () -> hall.pitch(2, 3, 5001));
        Check.is("19: 27 years more", 30, () -> hall.years(27));
        Check.is("19: 5000 stays", 5000, () -> hall.pitch(0, 1, 5000));
        Check.is("19: 5001 by 1 loses nothing", 5001, () -> hall.pitch(2, 3, 5001));
        hall.drift(0, 0);
        hall.pitch(0, 1, 44000);
        hall.years(1);
        Check.is("19: the drift was taken away", 44000, () -> hall.pitch(0, 1, 44000));
    }

    private static void yearsAreCounted() {
        GongCycles hall = new GongCycles();
        Check.argument("19: 0", () -> hall.years(0));
        Check.argument("19: 31", () -> hall.years(31));
        Check.argument("19: -1", () -> hall.years(-1));
        Check.argument("19: MAX", () -> hall.years(MAX));
        for (int tens = 1; tens <= 9; tens++) {
            int due = 30 * tens;
            Check.is("19: " + due, due, () -> hall.years(30));
        }
        Check.is("19: 299", 299, () -> hall.years(29));
        hall.drift(0, 50);
        Check.state("19: 301", () -> hall.years(2));
        Check.state("19: 329", () -> hall.years(30));
        Check.argument("19: 31 ahead of 330", () -> hall.years(31));
        Check.is("19: no pitch was lost", 44000, () -> hall.pitch(0, 1, 44000));
        Check.is("19: 300", 300, () -> hall.years(1));
        Check.is("19: the last year counts", 43780, () -> hall.pitch(0, 1, 44000));
        Check.state("19: 301 again", () -> hall.years(1));
    }

    private static void yearsInAPiece() {
        GongCycles hall = new GongCycles();
        hall.form(4);
        hall.piece(0);
        hall.days(3);
        Check.is("19: years", 7, () -> hall.years(7));
        Check.is("16: the day of the week stays", 4, () -> hall.days(1));
        hall.begin(0);
        Check.is("19: in a piece", 8, () -> hall.years(1));
        Check.is("13: it goes on", 1, () -> hall.now(4));
        Check.is("14: without ticks", 0, hall::ticks);
    }

    private static void tuning() {
        GongCycles hall = new GongCycles();
        hall.pitch(0, 1, 30000);
        hall.pitch(0, 2, 45001);
        hall.pitch(0, 3, 7501);
        hall.pitch(0, 4, 150000);
        hall.pitch(0, 5, 149999);
        hall.pitch(0, 6, 5000);
        hall.pitch(0, 7, 200000);
        hall.pitch(1, 1, 40000);
        hall.pitch(1, 2, 6000);
        Check.is("20: the tone 1 of the other", 40000, () -> hall.tune(0, 1));
        int[] due = {40000, 60001, 10001, 200000, 199998, 6666, 200000};
        for (int tone = 1; tone <= 7; tone++) {
            int t = tone;
            Check.is("20: tone " + tone, due[tone - 1], () -> hall.pitch(0, t, 44000));
        }
        Check.is("20: the other stays", 40000, () -> hall.pitch(1, 1, 5000));
        Check.is("20: all of it", 6000, () -> hall.pitch(1, 2, 6000));
        Check.is("20: down", 5000, () -> hall.tune(0, 1));
        for (int tone = 1; tone <= 7; tone++) {
            int t = tone;
            Check.is("20: at least 5000", 5000, () -> hall.pitch(0, t, 200000));
        }
        hall.pitch(1, 1, 200000);
        hall.pitch(0, 1, 199999);
        hall.pitch(0, 2, 199999);
        hall.pitch(0, 3, 100000);
        Check.is("20: high ones", 200000, () -> hall.tune(0, 1));
        Check.is("20: beyond what an int holds", 200000, () -> hall.pitch(0, 2, 5000));
        Check.is("20: rounded down", 100000, () -> hall.pitch(0, 3, 5000));
        hall.pitch(2, 1, 5000);
        hall.pitch(2, 2, 5001);
        hall.drift(3, 50);
        hall.years(1);
        Check.is("20: by a drifted one", 43780, () -> hall.tune(2, 3));
        Check.is("20: its drifted pitch", 43788, () -> hall.pitch(2, 2, 5000));
    }

    private static void tuningRefused() {
        GongCycles hall = new GongCycles();
        hall.pitch(0, 1, 22000);
        Check.argument("20: by itself", () -> hall.tune(0, 0));
        Check.argument("20: by itself, 3", () -> hall.tune(3, 3));
        Check.index("20: set 4", () -> hall.tune(4, 0));
        Check.index("20: by set 4", () -> hall.tune(0, 4));
        Check.index("20: set -1", () -> hall.tune(-1, 0));
        Check.index("20: by set -1", () -> hall.tune(0, -1));
        Check.index("20: none by itself", () -> hall.tune(4, 4));
        Check.index("20: -1 by itself", () -> hall.tune(-1, -1));
        Check.index("20: MIN", () -> hall.tune(MIN, 0));
        Check.index("20: MAX", () -> hall.tune(0, MAX));
        Check.is("20: unchanged", 22000, () -> hall.pitch(0, 1, 22000));
    }

    private static void beats() {
        GongCycles hall = new GongCycles();
        Check.is("21: at first", 0, () -> hall.beat(0, 1, 1));
        hall.pitch(0, 3, 5000);
        hall.pitch(1, 3, 200000);
        Check.is("21: apart", 195000, () -> hall.beat(0, 1, 3));
        Check.is("21: either way", 195000, () -> hall.beat(1, 0, 3));
        Check.is("21: another tone", 0, () -> hall.beat(0, 1, 4));
        Check.is("21: another set", 39000, () -> hall.beat(0, 2, 3));
        Check.is("21: with itself", 0, () -> hall.beat(1, 1, 3));
        hall.pitch(3, 7, 44001);
        Check.is("21: the last of each", 1, () -> hall.beat(2, 3, 7));
        Check.index("21: set 4", () -> hall.beat(4, 0, 1));
        Check.index("21: set -1", () -> hall.beat(-1, 0, 1));
        Check.index("21: other 4", () -> hall.beat(0, 4, 1));
        Check.index("21: other -1", () -> hall.beat(0, -1, 1));
        Check.index("21: tone 0", () -> hall.beat(0, 1, 0));
        Check.index("21: tone 8", () -> hall.beat(0, 1, 8));
        Check.index("21: tone MAX", () -> hall.beat(0, 1, MAX));
    }
}
