/**
 * The sentences of a boundary case under "Tunings" and in promises 17 to 21, each with a test of
 * its own. Which exception is thrown when several apply: RefusalsTest.
 */
final class TuningsEdgesTest {
    private static final String TUNINGS = "Tunings";

    private TuningsEdgesTest() {
    }

    public static void main(String[] args) {
        termsOfSets();
        yearlyLoss();
        lowestPitch();
        termsOfBeat();
        termsOfTuning();
        pitch();
        drift();
        years();
        tune();
        beat();
        Script.end();
    }

    private static void termsOfSets() {
        Script.sentence(TUNINGS, "There are the sets 0 to 3");
        Script.run("pitch 0 1 5000 = 44000; pitch 3 1 6000 = 44000; pitch -1 1 5000 ! index",
            "pitch 4 1 5000 ! index",
            "pitch 0 1 5000 = 5000; pitch 3 1 5000 = 6000");
        Script.sentence(TUNINGS, "with a pitch for each tone, 44000 at first");
        StringBuilder calls = new StringBuilder();
        for (int set = 0; set < 4; set++) {
            for (int tone = 1; tone <= 7; tone++) {
                calls.append("pitch ").append(set).append(" ").append(tone).append(" ")
                    .append(5000 + 10 * set + tone).append(" = 44000;");
            }
        }
        for (int set = 0; set < 4; set++) {
            for (int tone = 1; tone <= 7; tone++) {
                calls.append("pitch ").append(set).append(" ").append(tone).append(" 44000 = ")
                    .append(5000 + 10 * set + tone).append(";");
            }
        }
        Script.run(calls.toString());
        Script.sentence(TUNINGS, "from 5000 to 200000");
        Script.run("pitch 2 4 5000 = 44000; pitch 2 4 4999 ! argument; pitch 2 4 200000 = 5000",
            "pitch 2 4 200001 ! argument",
            "pitch 2 4 44000 = 200000");
    }

    /** The pitch of a set behind a year with a drift. */
    private static void year(int pitch, int drift, int due) {
        Script.run("pitch 1 7 " + pitch + "; drift 1 " + drift + "; years 1 = 1; pitch 1 7 5000 = " + due);
    }

    private static void yearlyLoss() {
        Script.sentence(TUNINGS, "With each year a set loses of each pitch as many parts of 10000 as its drift");
        year(44000, 50, 43780);
        year(200000, 50, 199000);
        year(200000, 1, 199980);
        year(10000, 7, 9993);
        Script.run("drift 0 50; drift 3 10; years 1; pitch 0 1 5000 = 43780; pitch 0 7 5000 = 43780",
            "pitch 1 1 5000 = 44000",
            "pitch 2 7 5000 = 44000; pitch 3 1 5000 = 43956; pitch 3 7 5000 = 43956");
        Script.run("drift 0 50; years 2 = 2; pitch 0 1 44000 = 43562; years 1 = 3; pitch 0 2 44000 = 43345",
            "pitch 0 1 44000 = 43780");
        Script.sentence(TUNINGS, "its drift, 0 to 50, 0 at first");
        Script.run("drift 0 51 ! argument; drift 0 -1 ! argument; years 30; pitch 0 1 44000 = 44000",
            "drift 0 50 = 0; drift 0 0 = 50",
            "years 30; pitch 0 1 44000 = 44000; drift 1 0 = 0; drift 2 0 = 0; drift 3 0 = 0");
        Script.sentence(TUNINGS, "rounded down");
        year(9999, 1, 9999);
        year(10000, 1, 9999);
        year(19999, 1, 19998);
        year(20000, 1, 19998);
        year(44000, 1, 43996);
        year(49999, 1, 49995);
        year(5200, 50, 5174);
        year(5199, 50, 5174);
        year(199999, 50, 199000);
        Script.run("pitch 0 1 19999; drift 0 1; years 2 = 2; pitch 0 1 19999 = 19997; years 30",
            "pitch 0 1 5000 = 19969");
    }

    private static void lowestPitch() {
        Script.sentence(TUNINGS, "but no pitch falls below 5000");
        year(5026, 50, 5001);
        year(5025, 50, 5000);
        year(5024, 50, 5000);
        year(5001, 50, 5000);
        year(5000, 50, 5000);
        year(5000, 1, 5000);
        year(5000, 2, 5000);
        Script.run("pitch 0 1 5000; pitch 0 2 5100; drift 0 50; years 30 = 30; years 30; pitch 0 1 44000 = 5000",
            "pitch 0 2 44000 = 5000");
        Script.run("drift 0 50; 10x years 30; years 1 ! state; pitch 0 1 44000 = 9856");
    }

    private static void termsOfBeat() {
        Script.sentence(TUNINGS, "The beat of two sets for a tone is how far their pitches are apart.");
        Script.run("pitch 0 2 5000; pitch 1 2 200000; beat 0 1 2 = 195000; beat 1 0 2 = 195000; beat 0 1 1 = 0",
            "beat 0 2 2 = 39000",
            "beat 1 3 2 = 156000; beat 0 0 2 = 0; pitch 0 2 199999; beat 0 1 2 = 1; beat 1 0 2 = 1",
            "pitch 0 2 200000; beat 1 0 2 = 0");
    }

    /** A pitch of a set tuned from one pitch of the tone 1 to another. */
    private static void tuned(int pitch, int own, int other, int due) {
        Script.run("pitch 3 1 " + own + "; pitch 3 2 " + pitch + "; pitch 3 7 " + pitch + "; pitch 0 1 " + other,
            "pitch 0 2 6000; tune 3 0 = " + other + "; pitch 3 2 44000 = " + due + "; pitch 3 7 44000 = " + due,
            "pitch 3 1 44000 = " + other + "; pitch 0 1 44000 = " + other + "; pitch 0 2 44000 = 6000",
            "pitch 0 3 44000 = 44000");
    }

    private static void termsOfTuning() {
        Script.sentence(TUNINGS, "each of its pitches: that times the other one's pitch of the tone 1, "
            + "divided by its own of the tone 1");
        tuned(20000, 10000, 30000, 60000);
        tuned(44000, 44000, 44000, 44000);
        tuned(200000, 200000, 5000, 5000);
        tuned(5000, 5000, 200000, 200000);
        tuned(199999, 199999, 200000, 200000);
        Script.sentence(TUNINGS, "rounded down");
        tuned(10001, 30000, 40000, 13334);
        tuned(10000, 30000, 40000, 13333);
        tuned(10001, 30000, 20000, 6667);
        tuned(199999, 200000, 199999, 199998);
        tuned(100000, 199999, 200000, 100000);
        Script.sentence(TUNINGS, "at least 5000");
        tuned(10002, 20000, 10000, 5001);
        tuned(10001, 20000, 10000, 5000);
        tuned(10000, 20000, 10000, 5000);
        tuned(9999, 20000, 10000, 5000);
        tuned(5000, 200000, 5000, 5000);
        Script.sentence(TUNINGS, "and at most 200000");
        tuned(99999, 10000, 20000, 199998);
        tuned(100000, 10000, 20000, 200000);
        tuned(100001, 10000, 20000, 200000);
        tuned(150001, 30000, 40000, 200000);
        tuned(200000, 5000, 200000, 200000);
    }

    private static void pitch() {
        Script.sentence("Promise 17", "`set`: 0 to 3");
        Script.run("pitch 0 1 5000 = 44000; pitch 3 1 5000 = 44000; pitch -1 1 5000 ! index",
            "pitch 4 1 5000 ! index",
            "pitch MIN 1 5000 ! index; pitch MAX 1 5000 ! index");
        Script.sentence("Promise 17", "`tone`: 1 to 7");
        Script.run("pitch 0 1 5001 = 44000; pitch 0 7 5007 = 44000; pitch 0 0 5000 ! index; pitch 0 8 5000 ! index",
            "pitch 3 8 5000 ! index; pitch 0 -1 5000 ! index; pitch 0 MIN 5000 ! index; pitch 0 MAX 5000 ! index",
            "pitch 0 1 5000 = 5001; pitch 0 7 5000 = 5007");
        Script.sentence("Promise 17", "`pitch`: 5000 to 200000");
        Script.run("pitch 0 1 5000 = 44000; pitch 0 1 200000 = 5000; pitch 0 1 4999 ! argument",
            "pitch 0 1 200001 ! argument",
            "pitch 0 1 0 ! argument; pitch 0 1 -5000 ! argument; pitch 0 1 MIN ! argument",
            "pitch 0 1 MAX ! argument",
            "pitch 0 1 5001 = 200000; pitch 0 1 199999 = 5001");
        Script.sentence("Promise 17", "Returns the one before.");
        Script.run("pitch 1 2 6000 = 44000; pitch 1 2 6000 = 6000; pitch 1 2 7000 = 6000; drift 1 50; years 1",
            "pitch 1 2 44000 = 6965");
        Script.sentence("Promise 17", "Throws `IndexOutOfBoundsException` if there is no such set or tone");
        Script.run("pitch 4 1 5000 ! index; pitch 0 8 5000 ! index; pitch -1 0 5000 ! index",
            "pitch 0 1 44000 = 44000");
        Script.sentence("Promise 17", "Throws `IllegalArgumentException` if pitch is out of range");
        Script.run("pitch 0 1 4999 ! argument; pitch 3 7 200001 ! argument; pitch 0 1 44000 = 44000",
            "pitch 3 7 44000 = 44000");
    }

    private static void drift() {
        Script.sentence("Promise 18", "`set`: 0 to 3");
        Script.run("drift 0 1 = 0; drift 3 2 = 0; drift -1 1 ! index; drift 4 1 ! index; drift MIN 1 ! index",
            "drift MAX 1 ! index",
            "drift 0 0 = 1; drift 3 0 = 2; drift 1 0 = 0; drift 2 0 = 0");
        Script.sentence("Promise 18", "`drift`: 0 to 50");
        Script.run("drift 0 50 = 0; drift 0 51 ! argument; drift 0 0 = 50; drift 0 -1 ! argument; drift 0 49 = 0",
            "drift 0 MIN ! argument; drift 0 MAX ! argument; drift 0 0 = 49");
        Script.sentence("Promise 18", "Returns the one before.");
        Script.run("drift 2 5 = 0; drift 2 5 = 5; drift 2 50 = 5; years 30; drift 2 1 = 50");
        Script.sentence("Promise 18", "Throws `IndexOutOfBoundsException` if there is no such set");
        Script.run("drift 4 0 ! index; drift -1 50 ! index; drift 0 0 = 0");
        Script.sentence("Promise 18", "Throws `IllegalArgumentException` if drift is out of range");
        Script.run("drift 0 9; drift 0 51 ! argument; drift 0 -1 ! argument; drift 0 0 = 9");
    }

    private static void years() {
        Script.sentence("Promise 19", "`years`: 1 to 30");
        Script.run("drift 0 50; years 0 ! argument; years 31 ! argument; years -1 ! argument",
            "years MIN ! argument; years MAX ! argument",
            "years 1 = 1; years 30 = 31");
        Script.sentence("Promise 19", "the day of the week stays");
        Script.run("days 3 = 3; years 1; days 1 = 4; years 30; days 5 = 4; form 4; piece 0; forbid 0 16",
            "begin 0 ! state",
            "forbid 0 15; begin 0 = 1");
        Script.sentence("Promise 19", "Lets years go by for the sets: also while a piece is played");
        Script.run("form 4; piece 0; begin 0; beats 2; years 5 = 5; now 0 = 2; now 4 = 1; ticks = 40; beats 2 = 2",
            "now 3 = 1");
        Script.sentence("Promise 19", "Returns how many went by so far.");
        Script.run("years 1 = 1; years 1 = 2; years 30 = 32; years 31 ! argument; years 2 = 34");
        Script.sentence("Promise 19", "Throws `IllegalArgumentException` if years is out of range");
        Script.run("drift 0 50; years 0 ! argument; pitch 0 1 44000 = 44000; years 31 ! argument",
            "pitch 0 1 44000 = 44000; years 1 = 1");
        Script.sentence("Promise 19", "Throws `IllegalStateException` if it would be above 300");
        Script.run("10x years 30; years 1 ! state; years 30 ! state; pitch 0 1 44000 = 44000");
        Script.run("9x years 30; drift 0 50; years 29 = 299; years 2 ! state; years 30 ! state; years 1 = 300",
            "years 1 ! state");
        Script.run("9x years 30; years 1 = 271; drift 0 50; years 30 ! state; pitch 0 1 44000 = 44000",
            "years 29 = 300");
    }

    private static void tune() {
        Script.sentence("Promise 20", "`set`: a set");
        Script.run("pitch 1 1 22000; tune 0 1 = 22000; tune 3 1 = 22000; tune -1 1 ! index; tune 4 1 ! index",
            "tune MIN 1 ! index",
            "tune MAX 1 ! index; pitch 2 1 5000 = 44000");
        Script.sentence("Promise 20", "`other`: another set");
        Script.run("pitch 0 1 22000; pitch 3 1 33000; tune 1 0 = 22000; tune 1 3 = 33000; tune 1 -1 ! index",
            "tune 1 4 ! index",
            "tune 1 MIN ! index; tune 1 MAX ! index; tune 1 1 ! argument; pitch 1 1 5000 = 33000");
        Script.sentence("Promise 20", "Returns its pitch of the tone 1 then.");
        Script.run("pitch 0 1 5000; pitch 1 1 200000; tune 0 1 = 200000; pitch 1 1 5000; tune 0 1 = 5000",
            "pitch 0 1 7777; tune 0 2 = 44000");
        Script.sentence("Promise 20", "Throws `IndexOutOfBoundsException` if there is no such set, of either");
        Script.run("pitch 0 1 5000; tune 4 0 ! index; tune 0 4 ! index; tune -1 0 ! index; tune 0 -1 ! index",
            "pitch 0 1 5000 = 5000");
        Script.sentence("Promise 20", "Throws `IllegalArgumentException` if both are one");
        Script.run("pitch 0 1 5000; tune 0 0 ! argument; tune 1 1 ! argument; tune 2 2 ! argument",
            "tune 3 3 ! argument; pitch 0 1 5000 = 5000");
    }

    private static void beat() {
        Script.sentence("Promise 21", "`set`: a set");
        Script.run("pitch 0 1 44001; pitch 3 1 44003; beat 0 1 1 = 1; beat 3 1 1 = 3; beat -1 1 1 ! index",
            "beat 4 1 1 ! index",
            "beat MIN 1 1 ! index; beat MAX 1 1 ! index");
        Script.sentence("Promise 21", "`other`: a set");
        Script.run("pitch 0 1 44001; pitch 3 1 44003; beat 1 0 1 = 1; beat 1 3 1 = 3; beat 1 1 1 = 0",
            "beat 1 -1 1 ! index",
            "beat 1 4 1 ! index; beat 1 MIN 1 ! index; beat 1 MAX 1 ! index");
        Script.sentence("Promise 21", "`tone`: 1 to 7");
        Script.run("pitch 0 1 44001; pitch 0 7 44007; beat 0 1 1 = 1; beat 0 1 7 = 7; beat 0 1 0 ! index",
            "beat 0 1 8 ! index",
            "beat 0 1 -1 ! index; beat 0 1 MIN ! index; beat 0 1 MAX ! index");
        Script.sentence("Promise 21", "Returns the beat: of one set with itself it is 0");
        Script.run("pitch 2 5 123456; beat 2 2 5 = 0; beat 0 0 1 = 0; beat 3 3 7 = 0; beat 2 3 5 = 79456",
            "beat 3 2 5 = 79456");
        Script.sentence("Promise 21", "Throws `IndexOutOfBoundsException` if there is no such set, of either, or tone");
        Script.run("beat 4 0 1 ! index; beat 0 4 1 ! index; beat 0 1 8 ! index; beat 4 4 8 ! index",
            "beat 0 1 1 = 0");
    }
}
