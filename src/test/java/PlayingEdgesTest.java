/**
 * The sentences of a boundary case under "Playing" and in promises 10 to 16, each with a test of
 * its own. Which exception is thrown when several apply: RefusalsTest.
 */
final class PlayingEdgesTest {
    private static final String PLAYING = "Playing";
    private static final String OF_4 = "form 4; piece 0; begin 0;";
    private static final String OF_8 = "form 8; piece 0; begin 0;";
    private static final String OF_12 = "form 12; piece 0; begin 0;";
    private static final String OF_64 = "form 64; piece 0; begin 0;";

    private PlayingEdgesTest() {
    }

    public static void main(String[] args) {
        asAPieceBegins();
        placesGoRound();
        ticksAndStrokesOfABeat();
        slowing();
        hastening();
        levels();
        telling();
        ends();
        endsToldAgain();
        cutting();
        weeks();
        begin();
        drum();
        beats();
        now();
        ticks();
        strokes();
        days();
        longestUse();
        Script.end();
    }

    /** The answers of now 0 to 5. */
    private static String now(int place, int length, int level, int gongs, int played, int piece) {
        return "; now 0 = " + place + "; now 1 = " + length + "; now 2 = " + level + "; now 3 = " + gongs
            + "; now 4 = " + played + "; now 5 = " + piece + ";";
    }

    private static void asAPieceBegins() {
        Script.sentence(PLAYING, "A beat has a length in ticks, 20 as a piece begins, and the level is 0 then.");
        Script.run(OF_4, now(0, 20, 0, 0, 1, 0), "beats 1; ticks = 20; strokes TWIN = 2");
        Script.run(OF_4, "drum SLOW; beats 72", now(4, 160, 3, 18, 1, 0), "drum CUT",
            "begin 0", now(0, 20, 0, 0, 1, 0));
        Script.run(OF_4, "drum SLOW; beats 72; drum END = 4; beats 100 = 8", now(4, 160, 3, 20, 0, 0),
            "begin 0", now(0, 20, 0, 0, 1, 0), "strokes TURN = 276; beats 1; strokes TURN = 277");
        Script.run(OF_4, "drum HASTEN; beats 9", now(1, 10, 0, 2, 1, 0), "drum CUT",
            "begin 0", now(0, 20, 0, 0, 1, 0));
    }

    private static void placesGoRound() {
        Script.sentence(PLAYING, "With each beat the place is the next one, from 1 on");
        Script.run(OF_4, "now 0 = 0; beats 1; now 0 = 1; beats 1; now 0 = 2; beats 1; now 0 = 3; beats 1",
            "now 0 = 4");
        Script.run(OF_64, "beats 63; now 0 = 63; now 3 = 0; beats 1; now 0 = 64; now 3 = 1");
        Script.sentence(PLAYING, "the first one behind the last one");
        Script.run(OF_4, "beats 4; now 0 = 4; beats 1; now 0 = 1; beats 3; now 0 = 4; beats 1; now 0 = 1",
            "now 3 = 2");
        Script.run(OF_64, "beats 64; now 0 = 64; beats 1; now 0 = 1; beats 63; now 0 = 64; beats 1; now 0 = 1");
        Script.run(OF_12, "beats 100; now 0 = 4; now 3 = 8; beats 8; now 0 = 12; now 3 = 9; beats 1; now 0 = 1");
    }

    private static void ticksAndStrokesOfABeat() {
        Script.sentence(PLAYING, "the ticks go on by the length [..]; then the length is 2 more");
        Script.run(OF_4, "drum SLOW; ticks = 0; beats 1; ticks = 20; now 1 = 22; beats 1; ticks = 42; now 1 = 24");
        Script.run(OF_4, "drum HASTEN; beats 1; ticks = 20; now 1 = 18; beats 1; ticks = 38; now 1 = 16");
        Script.sentence(PLAYING, "all parts have their strokes of that place by the level: the gong's by that ahead of it");
        Script.run(OF_12, "drum SLOW; beats 11; strokes TWIN = 22; strokes TURN = 11; strokes WALK = 22; now 2 = 0",
            "beats 1; now 2 = 1; strokes TWIN = 24; strokes TURN = 12; strokes WALK = 24; strokes BASE = 12",
            "beats 1; strokes TWIN = 28; strokes TURN = 14; strokes WALK = 28; strokes BASE = 13");
        Script.run(OF_4, "drum SLOW; beats 72; now 2 = 3; strokes TURN = 212; drum HASTEN; beats 3",
            "strokes TURN = 236",
            "beats 1; now 2 = 2; strokes TURN = 244; beats 1; strokes TURN = 248");
    }

    private static void slowing() {
        Script.sentence(PLAYING, "then the length is 2 more, up to 160, if the drum tells to slow");
        Script.run(OF_64, "drum SLOW; beats 69; now 1 = 158; beats 1; now 1 = 160; beats 1; now 1 = 160; beats 29",
            "now 1 = 160");
        Script.run(OF_64, "drum HASTEN; beats 5; now 1 = 10; drum SLOW; beats 1; now 1 = 12; beats 73; now 1 = 158",
            "beats 1; now 1 = 160; beats 1; now 1 = 160; drum HASTEN; beats 1; now 1 = 158");
        Script.run(OF_64, "drum SLOW; beats 70; ticks = 6230; beats 1; ticks = 6390; beats 1; ticks = 6550");
    }

    private static void hastening() {
        Script.sentence(PLAYING, "or 2 less, down to 10, if it tells to hasten");
        Script.run(OF_64, "drum HASTEN; beats 4; now 1 = 12; beats 1; now 1 = 10; beats 1; now 1 = 10; beats 94",
            "now 1 = 10");
        Script.run(OF_64, "drum SLOW; beats 80; now 1 = 160; drum HASTEN; beats 74; now 1 = 12; beats 1",
            "now 1 = 10",
            "beats 1; now 1 = 10; drum SLOW; beats 1; now 1 = 12");
        Script.run(OF_64, "drum HASTEN; beats 5; ticks = 80; beats 1; ticks = 90; beats 1; ticks = 100");
    }

    /** The level at the first gong of a piece of 64, slowed for the last beats ahead of it. */
    private static String gongWith(int length) {
        int slowed = (length - 20) / 2;
        String held = slowed == 64 ? "" : "beats " + (64 - slowed) + ";";
        return OF_64 + held + "drum SLOW; beats " + slowed + "; now 0 = 64; now 1 = " + length + ";";
    }

    private static void levels() {
        Script.sentence(PLAYING, "the level becomes 3 with a length of 160 or more");
        Script.run(OF_12, "beats 2; drum SLOW; beats 70; now 0 = 12; now 1 = 160; now 2 = 3");
        Script.run(OF_12, "beats 3; drum SLOW; beats 69; now 0 = 12; now 1 = 158; now 2 = 2; beats 1; now 1 = 160",
            "now 2 = 2");
        Script.sentence(PLAYING, "2 with 80 or more");
        Script.run(gongWith(80), "now 2 = 2");
        Script.run(gongWith(82), "now 2 = 2");
        Script.run(gongWith(78), "now 2 = 1");
        Script.run(gongWith(148), "now 2 = 2");
        Script.sentence(PLAYING, "1 with 40 or more");
        Script.run(gongWith(40), "now 2 = 1");
        Script.run(gongWith(42), "now 2 = 1");
        Script.run(gongWith(38), "now 2 = 0");
        Script.sentence(PLAYING, "otherwise 0");
        Script.run(gongWith(22), "now 2 = 0");
        Script.run(OF_4, "beats 4; now 2 = 0; drum HASTEN; beats 8; now 1 = 10; now 2 = 0");
        Script.run(gongWith(40), "drum HASTEN; beats 63; now 2 = 1; beats 1; now 1 = 10; now 2 = 0");
        Script.sentence(PLAYING, "If the place is the gong, the level becomes [..]: at no other place");
        Script.run(OF_64, "drum SLOW; beats 10; now 1 = 40; now 2 = 0; beats 20; now 1 = 80; now 2 = 0",
            "beats 33; now 1 = 146; now 2 = 0; beats 1; now 2 = 2; drum HASTEN; beats 54; now 1 = 40; now 2 = 2",
            "beats 9; now 1 = 22; now 2 = 2; beats 1; now 1 = 20; now 2 = 0");
        Script.run(OF_4, "drum SLOW; beats 69; now 1 = 158; now 2 = 2; beats 2; now 1 = 160; now 2 = 2; beats 1",
            "now 2 = 3",
            "drum HASTEN; beats 3; now 1 = 154; now 2 = 3; beats 1; now 1 = 152; now 2 = 2");
    }

    private static void telling() {
        Script.sentence(PLAYING, "The drum tells HOLD, as it does as a piece begins");
        Script.run(OF_8, "beats 8; now 1 = 20; ticks = 160");
        Script.run(OF_8, "drum SLOW; beats 3; drum CUT; begin 0; beats 8; now 1 = 20");
        Script.run(OF_8, "drum HASTEN; drum END; beats 8; now 4 = 0; begin 0 = 2; beats 8 = 8; now 1 = 20");
        Script.sentence(PLAYING, "SLOW or HASTEN, which holds until it tells another one of these");
        Script.run(OF_8, "drum SLOW; beats 100; now 1 = 160; drum HASTEN; beats 1; now 1 = 158; beats 24",
            "now 1 = 110",
            "drum HOLD; beats 100; now 1 = 110; drum SLOW; beats 1; now 1 = 112");
        Script.run(OF_8, "drum SLOW; beats 1; drum END; beats 1; now 1 = 24; drum END; beats 1; now 1 = 26");
        Script.run(OF_8, "drum SLOW; drum SLOW; beats 1; now 1 = 22; drum HASTEN; drum HASTEN; beats 1",
            "now 1 = 20");
        Script.run(OF_8, "drum SLOW; drum HOLD; drum 5 ! argument; beats 1; now 1 = 20");
        Script.run(OF_8, "drum SLOW; drum 5 ! argument; drum -1 ! argument; beats 1; now 1 = 22");
    }

    /** END told behind so many beats, and how many are played then. */
    private static void end(int length, int told, int played, int gongs) {
        String ahead = told == 0 ? "" : "beats " + told + ";";
        int place = told == 0 ? 0 : (told - 1) % length + 1;
        String behind = played <= 100 ? "beats 100 = " + played
            : "beats 100 = 100; now 4 = 1; beats 100 = " + (played - 100);
        Script.run("form " + length + "; piece 0; begin 0;" + ahead + "drum END = " + place + "; now 4 = 1",
            behind, now(length, 20, 0, gongs, 0, 0), "beats 1 ! state; drum HOLD ! state; begin 0 = 2");
    }

    private static void ends() {
        Script.sentence(PLAYING, "END, told with a place (that was played last) that is at most half the length, "
            + "for the gong that comes");
        for (int told = 0; told <= 2; told++) {
            end(4, told, 4 - told, 1);
        }
        end(8, 0, 8, 1);
        end(8, 4, 4, 1);
        end(12, 5, 7, 1);
        end(12, 6, 6, 1);
        end(64, 0, 64, 1);
        end(64, 31, 33, 1);
        end(64, 32, 32, 1);
        end(8, 9, 7, 2);
        end(8, 12, 4, 2);
        end(64, 96, 32, 2);
        Script.sentence(PLAYING, "with a greater one, [..] for that behind it");
        end(4, 3, 5, 2);
        end(8, 5, 11, 2);
        end(8, 7, 9, 2);
        end(12, 7, 17, 2);
        end(12, 11, 13, 2);
        end(64, 33, 95, 2);
        end(64, 63, 65, 2);
        end(8, 13, 11, 3);
        Script.sentence(PLAYING, "also just behind a gong, for that behind it");
        end(4, 4, 8, 3);
        end(8, 8, 16, 3);
        end(12, 12, 24, 3);
        end(64, 64, 128, 3);
        end(4, 8, 8, 4);
        Script.sentence(PLAYING, "and the piece ends, if the end was told for this gong: then, and not ahead of it");
        Script.run(OF_4, "drum END; beats 3 = 3; now 4 = 1; now 3 = 0; beats 1 = 1; now 4 = 0; now 3 = 1",
            "beats 1 ! state");
        Script.run(OF_4, "beats 3; drum END; beats 1; now 4 = 1; now 3 = 1; beats 3 = 3; now 4 = 1; beats 1",
            "now 4 = 0; now 3 = 2");
        Script.run(OF_4, "100x beats 4 = 4; now 4 = 1; now 3 = 100");
    }

    private static void endsToldAgain() {
        Script.sentence(PLAYING, "told again it does nothing");
        Script.run(OF_8, "drum END; drum END; beats 100 = 8");
        Script.run(OF_8, "beats 4; drum END; beats 1; drum END = 5; beats 100 = 3");
        Script.run(OF_8, "beats 4; drum END; beats 3; drum END = 7; drum END = 7; beats 100 = 1; now 3 = 1");
        Script.run(OF_8, "beats 5; drum END; drum END; beats 100 = 11; now 3 = 2");
        Script.run(OF_8, "beats 5; drum END; beats 3; drum END = 8; beats 100 = 8; now 3 = 2");
        Script.run(OF_8, "beats 5; drum END; beats 4; drum END = 1; beats 100 = 7; now 3 = 2");
        Script.run(OF_8, "beats 5; drum END; beats 8; drum END = 5; beats 100 = 3; now 3 = 2");
        Script.run(OF_8, "beats 8; drum END; beats 8 = 8; now 4 = 1; drum END = 8; beats 100 = 8; now 3 = 3",
            "now 4 = 0");
        Script.sentence(PLAYING, "told again: behind the next beginning it is told for the first time");
        Script.run(OF_8, "drum END; drum CUT; begin 0; beats 100 = 100; now 4 = 1");
        Script.run(OF_8, "beats 7; drum END; beats 2; drum CUT; begin 0; beats 8; now 4 = 1; drum END = 8",
            "beats 100 = 16");
        Script.run(OF_8, "drum END; beats 8; begin 0; beats 8; now 4 = 1; beats 3; drum END = 3; beats 100 = 5");
    }

    private static void cutting() {
        Script.sentence(PLAYING, "CUT ends the piece at once.");
        Script.run(OF_8, "drum CUT = 0", now(0, 20, 0, 0, 0, 0), "ticks = 0; beats 1 ! state; drum CUT ! state",
            "days 1 = 1");
        Script.run(OF_8, "beats 3; drum CUT = 3", now(3, 20, 0, 0, 0, 0), "ticks = 60; beats 1 ! state",
            "begin 0 = 2");
        Script.run(OF_8, "beats 8; drum CUT = 8", now(8, 20, 0, 1, 0, 0), "drum HOLD ! state");
        Script.run(OF_8, "drum END; beats 2; drum CUT = 2", now(2, 20, 0, 0, 0, 0), "beats 100 ! state",
            "begin 0 = 2");
    }

    private static void weeks() {
        Script.sentence(PLAYING, "A week has 5 days, 0 to 4");
        Script.run("days 1 = 1; days 1 = 2; days 1 = 3; days 1 = 4; days 1 = 0; days 1 = 1");
        Script.run("days 4 = 4; days 5 = 4; days 1 = 0; days 6 = 1; days 99 = 0; days 100 = 0");
        Script.sentence(PLAYING, "today is the day 0 at first");
        Script.run("form 4; piece 0; forbid 0 1; begin 0 ! state; forbid 0 30; begin 0 = 1");
        Script.run("days 5 = 0");
        Script.run("days 3 = 3");
        Script.sentence(PLAYING, "A piece is not begun on days that are forbidden for it.");
        for (int day = 0; day < 5; day++) {
            StringBuilder calls = new StringBuilder("form 4; piece 0; forbid 0 " + (1 << day) + ";");
            for (int today = 0; today < 10; today++) {
                calls.append(today % 5 == day ? "begin 0 ! state;" : "begin 0; drum CUT;");
                calls.append("days 1 = ").append((today + 1) % 5).append(";");
            }
            Script.run(calls.toString());
        }
        Script.run("form 4; piece 0; piece 0; forbid 0 31; begin 0 ! state; begin 1 = 1; drum CUT; days 4",
            "begin 0 ! state",
            "days 1 = 0; forbid 0 0; begin 0 = 2");
    }

    private static void begin() {
        Script.sentence("Promise 10", "`piece`: a piece");
        Script.run("form 4; piece 0; piece 0; begin 2 ! index; begin -1 ! index; begin MIN ! index",
            "begin MAX ! index",
            "now 5 = NONE; begin 0 = 1; now 5 = 0; drum CUT; begin 1 = 2; now 5 = 1");
        Script.run("form 4; 6x piece 0; begin 6 ! index; begin 5 = 1; now 5 = 5");
        Script.sentence("Promise 10", "Returns how many pieces were begun so far.");
        Script.run("form 4; piece 0; piece 0; begin 1 = 1; drum CUT; begin 1 = 2; drum END; beats 4; begin 0 = 3",
            "begin 0 ! state",
            "drum CUT; forbid 0 1; begin 0 ! state; begin 2 ! index; begin 1 = 4");
        Script.sentence("Promise 10", "Throws `IndexOutOfBoundsException` if there is no such piece");
        Script.run("begin 0 ! index; form 4; begin 0 ! index; piece 0; begin 1 ! index; begin 0 = 1",
            "begin 1 ! index");
        Script.sentence("Promise 10", "Throws `IllegalStateException` if one is played, or it is forbidden today");
        Script.run("form 4; piece 0; piece 0; begin 0; begin 0 ! state; begin 1 ! state; beats 3; begin 1 ! state",
            "drum END = 3",
            "beats 4; begin 1 ! state; beats 1; begin 1 = 2");
        Script.run("form 4; piece 0; forbid 0 16; days 4 = 4; begin 0 ! state; days 1 = 0; begin 0 = 1");
        Script.run("form 4; piece 0; piece 0; forbid 1 1; begin 0 = 1; begin 1 ! state; drum CUT; begin 1 ! state",
            "now 5 = 0");
    }

    private static void drum() {
        Script.sentence("Promise 11", "`what`: HOLD to CUT");
        Script.run(OF_4, "drum 0 = 0; drum 1 = 0; drum 2 = 0; drum 3 = 0; drum -1 ! argument; drum 5 ! argument",
            "drum MIN ! argument; drum MAX ! argument; drum 4 = 0; now 4 = 0");
        Script.sentence("Promise 11", "Returns the place that was played last, 0 ahead of the first one.");
        Script.run(OF_4, "drum HOLD = 0; beats 1; drum HOLD = 1; beats 3; drum SLOW = 4; beats 1; drum HASTEN = 1",
            "drum END = 1; drum CUT = 1",
            "begin 0; drum HOLD = 0; drum CUT = 0");
        Script.run(OF_64, "beats 64; drum END = 64; beats 1; drum CUT = 1");
        Script.sentence("Promise 11", "Throws `IllegalArgumentException` if what is out of range");
        Script.run("drum -1 ! argument; drum 5 ! argument; form 4; piece 0; begin 0; drum SLOW",
            "drum -1 ! argument; drum 5 ! argument",
            "beats 1; now 1 = 22; drum CUT; drum 5 ! argument");
        Script.sentence("Promise 11", "Throws `IllegalStateException` if nothing is played");
        Script.run("drum HOLD ! state; drum SLOW ! state; drum HASTEN ! state; drum END ! state; drum CUT ! state",
            OF_4, "beats 1; now 1 = 20; drum END = 1; beats 3; drum SLOW ! state; drum END ! state",
            "drum CUT ! state",
            "begin 0; beats 100 = 100; now 1 = 20; drum CUT; drum HOLD ! state");
    }

    private static void beats() {
        Script.sentence("Promise 12", "`beats`: 1 to 100");
        Script.run(OF_64, "beats 1 = 1; beats 100 = 100; beats 0 ! argument; beats 101 ! argument",
            "beats -1 ! argument",
            "beats MIN ! argument; beats MAX ! argument; now 0 = 37; now 3 = 1");
        Script.sentence("Promise 12", "Plays beats, until the piece ends. Returns how many were played.");
        Script.run(OF_8, "beats 99 = 99; beats 100 = 100; now 3 = 24; now 0 = 7; drum END = 7; beats 8 = 8",
            "now 4 = 1; beats 1 = 1; now 4 = 0");
        Script.run(OF_8, "beats 1; drum END; beats 7 = 7; now 4 = 0; ticks = 160; strokes BASE = 8");
        Script.run(OF_8, "beats 1; drum END; beats 8 = 7; now 4 = 0; ticks = 160; strokes BASE = 8");
        Script.run(OF_8, "beats 1; drum END; beats 6 = 6; now 4 = 1; ticks = 140; strokes BASE = 7");
        Script.run(OF_64, "beats 28; drum END; beats 36 = 36; now 4 = 0; begin 0; beats 100 = 100; drum END = 36",
            "beats 100 = 92");
        Script.sentence("Promise 12", "Throws `IllegalArgumentException` if beats is out of range");
        Script.run(OF_4, "beats 2; beats 0 ! argument; beats 101 ! argument; now 0 = 2; ticks = 40",
            "strokes BASE = 2");
        Script.sentence("Promise 12", "Throws `IllegalStateException` if nothing is played");
        Script.run("beats 1 ! state; beats 100 ! state; form 4; piece 0; beats 1 ! state; begin 0; drum END",
            "beats 4 = 4; beats 1 ! state",
            "begin 0; drum CUT; beats 100 ! state; ticks = 80");
    }

    private static void now() {
        Script.sentence("Promise 13", "`what`: 0 the place [..] to 5 the piece");
        Script.run("form 4; 2x piece 0; begin 1; drum SLOW",
            "beats 31", now(3, 82, 1, 7, 1, 1), "beats 1", now(4, 84, 2, 8, 1, 1));
        Script.sentence("Promise 13", "5 the piece, NONE ahead of the first one. Returns as told; ahead of the first one 0, but 5.");
        Script.run("now 0 = 0; now 1 = 0; now 2 = 0; now 3 = 0; now 4 = 0; now 5 = NONE; form 4; piece 0",
            "now 5 = NONE",
            "now 1 = 0; forbid 0 31",
            "begin 0 ! state", now(0, 0, 0, 0, 0, -1), "begin 1 ! index", now(0, 0, 0, 0, 0, -1));
        Script.sentence("Promise 13", "Tells of what is played, or was played last");
        Script.run("form 4; piece 0; piece 0; begin 1; drum SLOW; beats 41; drum END = 1",
            "beats 100 = 3", now(4, 108, 2, 11, 0, 1),
            "begin 0", now(0, 20, 0, 0, 1, 0), "drum CUT", now(0, 20, 0, 0, 0, 0), "days 7 = 2", now(0, 20, 0, 0, 0, 0));
        Script.sentence("Promise 13", "3 gongs of this piece so far");
        Script.run(OF_4, "now 3 = 0; beats 3; now 3 = 0; beats 1; now 3 = 1; beats 100; now 3 = 26; drum CUT",
            "now 3 = 26; begin 0; now 3 = 0");
        Script.sentence("Promise 13", "4 whether it is played, 1 or 0");
        Script.run("now 4 = 0; form 4; piece 0; now 4 = 0; begin 0; now 4 = 1; drum END; beats 3; now 4 = 1",
            "beats 1; now 4 = 0",
            "begin 0; now 4 = 1; drum CUT; now 4 = 0");
        Script.sentence("Promise 13", "Throws `IllegalArgumentException` if what is out of range");
        Script.run("now -1 ! argument; now 6 ! argument; now MIN ! argument; now MAX ! argument", OF_4,
            "now -1 ! argument; now 6 ! argument; now 0 = 0; now 5 = 0");
    }

    private static void ticks() {
        Script.sentence("Promise 14", "Returns all ticks so far: 0 ahead of the first one, and of all pieces together");
        Script.run("ticks = 0; form 4; piece 0; ticks = 0; begin 0; ticks = 0; beats 1; ticks = 20; drum HASTEN",
            "beats 6; ticks = 110",
            "drum CUT; ticks = 110; begin 0; ticks = 110; beats 1; ticks = 130; days 1 ! state; ticks = 130");
    }

    private static void strokes() {
        Script.sentence("Promise 15", "`part`: BASE to WALK");
        Script.run(OF_4, "beats 3; strokes BASE = 3; strokes TWIN = 6; strokes TURN = 3; strokes WALK = 6",
            "strokes -1 ! index",
            "strokes 4 ! index; strokes MIN ! index; strokes MAX ! index");
        Script.sentence("Promise 15", "Returns how many strokes a part had so far: at each level, of all pieces together");
        Script.run(OF_4, "drum SLOW; strokes WALK = 0; beats 12; strokes WALK = 24; strokes TURN = 12; beats 20",
            "now 2 = 2",
            "strokes BASE = 32; strokes TWIN = 104; strokes TURN = 52; strokes WALK = 104",
            "beats 40; now 2 = 3; strokes BASE = 72; strokes TWIN = 424; strokes TURN = 212; strokes WALK = 424",
            "beats 1; strokes BASE = 73; strokes TWIN = 440; strokes TURN = 220; strokes WALK = 440",
            "drum CUT; begin 0; strokes WALK = 440; beats 1; strokes BASE = 74; strokes TWIN = 442",
            "strokes TURN = 221; strokes WALK = 442");
        Script.run("form 4; piece 0; tone 0 1 7; begin 0; beats 4; strokes WALK = 8; strokes TWIN = 8",
            "strokes TURN = 4; strokes BASE = 4");
        Script.sentence("Promise 15", "Throws `IndexOutOfBoundsException` if there is no such part");
        Script.run("strokes BASE = 0; strokes WALK = 0; strokes -1 ! index; strokes 4 ! index");
    }

    private static void days() {
        Script.sentence("Promise 16", "`days`: 1 to 100");
        Script.run("days 1 = 1; days 100 = 1; days 0 ! argument; days 101 ! argument; days -1 ! argument",
            "days MIN ! argument",
            "days MAX ! argument; days 1 = 2");
        Script.sentence("Promise 16", "Returns the day of the week.");
        Script.run("days 2 = 2; days 2 = 4; days 2 = 1; days 4 = 0; days 5 = 0; days 99 = 4; days 1 = 0",
            "days 100 = 0; days 98 = 3");
        Script.sentence("Promise 16", "Throws `IllegalArgumentException` if days is out of range");
        Script.run("days 3; days 0 ! argument; days 101 ! argument; days 1 = 4", OF_4, "days 0 ! argument",
            "days 101 ! argument");
        Script.sentence("Promise 16", "Throws `IllegalStateException` if a piece is played");
        Script.run("days 3;", OF_4, "days 1 ! state; days 100 ! state; beats 3; days 5 ! state; drum CUT",
            "days 1 = 4; begin 0; drum END",
            "beats 3; days 1 ! state; beats 1; days 1 = 0");
    }

    private static void longestUse() {
        Script.sentence("What it is", "An object is used for at most 512 calls after it has been made");
        Script.run(OF_64, "drum SLOW; 502x beats 100 = 100; strokes BASE = 50200; strokes TWIN = 801792",
            "strokes TURN = 400896",
            "strokes WALK = 801792; now 3 = 784; ticks = 8027030");
    }
}
