/**
 * The sentences of a boundary case under "Forms" and "Pieces, parts" and in promises 1 to 9, each
 * with a test of its own. Which exception is thrown when several apply: RefusalsTest.
 */
final class FormsEdgesTest {
    private static final String FORMS = "Forms";
    private static final String PIECES = "Pieces, parts";
    /** Tones at places 2 and 5 alone; what sounds is 3 5 5 5 3 3 3 3. */
    private static final String TWO_TONES = "form 8; piece 0; tone 0 2 5; tone 0 5 3;";

    private FormsEdgesTest() {
    }

    public static void main(String[] args) {
        termsOfForms();
        depthsByHand();
        termsOfPieces();
        whatSounds();
        pairs();
        base();
        twin();
        turn();
        walk();
        walkOfRests();
        newObject();
        form();
        depth();
        piece();
        tone();
        forbid();
        sounds();
        strokes("Promise 8", "stroke");
        strokes("Promise 9", "strokeAnew");
        foundAnew();
        Script.end();
    }

    private static void termsOfForms() {
        Script.sentence(FORMS, "Forms are numbered from 0, at most 4");
        Script.run("form 4 = 0; form 8 = 1; form 12 = 2; form 16 = 3; form 20 ! state",
            "depth 0 4 = 0; depth 3 16 = 0; depth 4 4 ! index; depth -1 4 ! index");
        Script.sentence(FORMS, "a form has a length, 4 to 64, a multiple of 4");
        for (int length = 4; length <= 64; length += 4) {
            Script.run("form " + length + " = 0; depth 0 " + length + " = 0",
                "depth 0 " + (length + 1) + " ! index");
            for (int more = 1; more <= 3; more++) {
                Script.run("form " + (length + more) + " ! argument; form 4 = 0");
            }
        }
        Script.sentence(FORMS, "places 1 to its length");
        for (int length = 4; length <= 64; length += 4) {
            Script.run("form " + length + "; depth 0 0 ! index; depth 0 " + (length + 1) + " ! index",
                "depth 0 " + length + " = 0; piece 0; sounds 0 0 ! index; sounds 0 1 = 0",
                "sounds 0 " + length + " = 0; sounds 0 " + (length + 1) + " ! index");
        }
        Script.sentence(FORMS, "The place that is the length has the depth 0: it is the gong.");
        for (int length = 4; length <= 64; length += 4) {
            Script.run("form " + length + "; depth 0 " + length + " = 0; piece 0; begin 0",
                "beats " + (length - 1) + "; now 3 = 0; beats 1; now 0 = " + length + "; now 3 = 1");
        }
    }

    /** Rows of the depths of all places of a length; 9 stands for none. */
    private static void depthsByHand() {
        Script.sentence(FORMS, "The depth of a place is the least number d, from 0 on, for which the "
            + "length can be divided by 2 to the power of d, and the place by what comes out");
        depths("2120");
        depths("32313230");
        depths("4342434143424340");
        depths("54535452545354515453545254535450");
        depths("6564656365646562656465636564656165646563656465626564656365646560");
        Script.sentence(FORMS, "a place without one has no stroke");
        depths("992991992990");
        depths("99992999919999299990");
        depths("993992993991993992993990");
        depths("9999992999999199999929999990");
        depths("9999399992999939999199993999929999399990");
        depths("994993994992994993994991994993994992994993994990");
        depths("999999999999992999999999999991999999999999992999999999999990");
    }

    private static void depths(String due) {
        StringBuilder calls = new StringBuilder("form " + due.length() + ";");
        for (int place = 1; place <= due.length(); place++) {
            char depth = due.charAt(place - 1);
            calls.append("depth 0 ").append(place).append(" = ").append(depth == '9' ? "NONE" : depth).append(";");
        }
        Script.run(calls.toString());
    }

    private static void termsOfPieces() {
        Script.sentence(PIECES, "Pieces are numbered from 0, at most 6");
        Script.run("form 4; piece 0 = 0; piece 0 = 1; piece 0 = 2; piece 0 = 3; piece 0 = 4",
            "sounds 5 1 ! index; piece 0 = 5; sounds 5 1 = 0; piece 0 ! state",
            "sounds 0 1 = 0; sounds 6 1 ! index; sounds -1 1 ! index");
        Script.sentence(PIECES, "each of a form");
        Script.run("form 8; form 4; piece 1; piece 0; piece 1; sounds 0 4 = 0; sounds 0 5 ! index",
            "sounds 1 8 = 0; sounds 1 9 ! index; sounds 2 4 = 0; sounds 2 5 ! index");
        Script.sentence(PIECES, "at each place there is a tone, 1 to 7, or a rest, 0, as at first");
        StringBuilder calls = new StringBuilder("form 8; piece 0;");
        for (int place = 1; place <= 8; place++) {
            calls.append("tone 0 ").append(place).append(" ").append(place % 8).append(" = 0;");
        }
        for (int place = 1; place <= 8; place++) {
            calls.append("tone 0 ").append(place).append(" 0 = ").append(place % 8).append(";");
        }
        Script.run(calls.toString(), "tone 0 1 -1 ! argument; tone 0 8 8 ! argument; tone 0 8 0 = 0");
        Script.sentence(PIECES, "There are levels 0 to 3.");
        for (String call : new String[] {"stroke", "strokeAnew"}) {
            for (int part = 0; part < 4; part++) {
                String stroke = call + " 0 " + part + " 2 ";
                Script.run("form 4; piece 0; tone 0 1 6", stroke + "0 0 = 6", stroke + "3 0 = 6",
                    stroke + "-1 0 ! argument", stroke + "4 0 ! argument");
            }
        }
    }

    private static void whatSounds() {
        Script.sentence(PIECES, "What sounds at a place is its tone");
        sounding("form 4; piece 0; tone 0 1 4; tone 0 2 7; tone 0 3 1; tone 0 4 2", 4, 7, 1, 2);
        Script.sentence(PIECES, "at a rest that of the nearest place ahead of it that has one");
        sounding("form 4; piece 0; tone 0 1 4; tone 0 3 1", 4, 4, 1, 1);
        sounding("form 4; piece 0; tone 0 1 4; tone 0 2 7", 4, 7, 7, 7);
        Script.sentence(PIECES, "the last place being ahead of the first one");
        sounding("form 4; piece 0; tone 0 4 2", 2, 2, 2, 2);
        sounding("form 4; piece 0; tone 0 2 7", 7, 7, 7, 7);
        sounding("form 4; piece 0; tone 0 3 5; tone 0 2 1", 5, 1, 5, 5);
        sounding(TWO_TONES, 3, 5, 5, 5, 3, 3, 3, 3);
        Script.run("form 64; piece 0; tone 0 2 6; sounds 0 1 = 6; tone 0 64 3; sounds 0 1 = 3",
            "sounds 0 63 = 6; tone 0 64 0; tone 0 2 0; tone 0 1 1; sounds 0 64 = 1");
        Script.sentence(PIECES, "0 if there is none");
        sounding("form 4; piece 0", 0, 0, 0, 0);
        sounding("form 4; piece 0; tone 0 4 7; tone 0 4 0", 0, 0, 0, 0);
        sounding("form 4; piece 0; piece 0; tone 1 1 7", 0, 0, 0, 0);
        Script.run("form 64; piece 0; sounds 0 1 = 0; sounds 0 64 = 0");
    }

    private static void sounding(String hall, int... due) {
        StringBuilder calls = new StringBuilder(hall + ";");
        for (int place = 1; place <= due.length; place++) {
            calls.append("sounds 0 ").append(place).append(" = ").append(due[place - 1]).append(";");
        }
        Script.run(calls.toString());
    }

    /** A row of strokes of a pair, in both ways of finding them, and what is behind its ends. */
    private static void row(String hall, String part, int level, int first, int... due) {
        StringBuilder calls = new StringBuilder(hall + ";");
        int density = due.length / 2;
        for (String call : new String[] {"stroke", "strokeAnew"}) {
            for (int place = first; place <= first + 1; place++) {
                String told = call + " 0 " + part + " " + place + " " + level + " ";
                for (int stroke = 0; stroke < density; stroke++) {
                    int tone = due[(place - first) * density + stroke];
                    calls.append(told).append(stroke).append(" = ").append(tone).append(";");
                }
                calls.append(told).append("-1 ! argument;").append(told).append(density).append(" ! argument;");
            }
        }
        Script.run(calls.toString());
    }

    private static String pairOf(int x, int y) {
        return "form 4; piece 0; tone 0 1 " + x + "; tone 0 2 " + y;
    }

    private static void pairs() {
        String eight = "form 8; piece 0; tone 0 1 1; tone 0 2 2; tone 0 3 3; tone 0 4 4;"
            + "tone 0 5 5; tone 0 6 6; tone 0 7 7; tone 0 8 1";
        Script.sentence(PIECES, "Places go in pairs: 1 and 2, 3 and 4, and so on");
        row(eight, "TURN", 1, 1, 1, 2, 1, 2);
        row(eight, "TURN", 1, 3, 3, 4, 3, 4);
        row(eight, "TURN", 1, 5, 5, 6, 5, 6);
        row(eight, "TURN", 1, 7, 7, 1, 7, 1);
        row("form 64; piece 0; tone 0 63 2; tone 0 64 6; tone 0 1 4", "TURN", 1, 63, 2, 6, 2, 6);
        row("form 64; piece 0; tone 0 63 2; tone 0 64 6; tone 0 1 4", "TURN", 1, 1, 4, 4, 4, 4);
        Script.sentence(PIECES, "x is what sounds at the first one of a pair, y at the second one");
        row(TWO_TONES, "TURN", 1, 1, 3, 5, 3, 5);
        row(TWO_TONES, "TWIN", 0, 3, 5, 5, 5, 5);
        row(TWO_TONES, "WALK", 0, 1, 3, 4, 5, 5);
        row(TWO_TONES, "BASE", 2, 5, 3, 3);
        row("form 8; piece 0; tone 0 4 6; tone 0 1 2", "WALK", 0, 3, 2, 3, 4, 6);
        row("form 4; piece 0; tone 0 2 6; tone 0 4 1", "BASE", 0, 1, 1, 6);
        Script.sentence(PIECES, "which are counted through both from 0 on, t");
        row(pairOf(2, 7), "TURN", 0, 1, 2, 7);
        row(pairOf(2, 7), "TWIN", 0, 1, 2, 2, 7, 7);
        row(pairOf(2, 7), "WALK", 1, 1, 2, 3, 4, 5, 6, 7, 7, 7);
    }

    private static void base() {
        Script.sentence(PIECES, "BASE: density 1; x, then y.");
        for (int level = 0; level <= 3; level++) {
            row(pairOf(2, 7), "BASE", level, 1, 2, 7);
            row(pairOf(7, 1), "BASE", level, 1, 7, 1);
        }
    }

    private static void twin() {
        Script.sentence(PIECES, "TWIN: density 2 to the power of (the level and 1, together): 2, 4, 8, 16");
        densities("TWIN", 2, 4, 8, 16);
        Script.sentence(PIECES, "TWIN: x if t by 4 leaves less than 2, otherwise y");
        row(pairOf(2, 7), "TWIN", 0, 1, 2, 2, 7, 7);
        row(pairOf(2, 7), "TWIN", 1, 1, 2, 2, 7, 7, 2, 2, 7, 7);
        row(pairOf(7, 2), "TWIN", 2, 1, 7, 7, 2, 2, 7, 7, 2, 2, 7, 7, 2, 2, 7, 7, 2, 2);
        row(pairOf(1, 3), "TWIN", 3, 1, 1, 1, 3, 3, 1, 1, 3, 3, 1, 1, 3, 3, 1, 1, 3, 3,
            1, 1, 3, 3, 1, 1, 3, 3, 1, 1, 3, 3, 1, 1, 3, 3);
    }

    private static void turn() {
        Script.sentence(PIECES, "TURN: density 2 to the power of the level");
        densities("TURN", 1, 2, 4, 8);
        Script.sentence(PIECES, "TURN: x if t is even, otherwise y");
        row(pairOf(2, 7), "TURN", 0, 1, 2, 7);
        row(pairOf(2, 7), "TURN", 1, 1, 2, 7, 2, 7);
        row(pairOf(7, 2), "TURN", 2, 1, 7, 2, 7, 2, 7, 2, 7, 2);
        row(pairOf(1, 3), "TURN", 3, 1, 1, 3, 1, 3, 1, 3, 1, 3, 1, 3, 1, 3, 1, 3, 1, 3);
    }

    /** The last stroke of either place, and the first that there is not. */
    private static void densities(String part, int... due) {
        for (int level = 0; level <= 3; level++) {
            for (int place = 3; place <= 4; place++) {
                String stroke = "0 " + part + " " + place + " " + level + " ";
                Script.run("form 4; piece 0; tone 0 1 5",
                    "stroke " + stroke + (due[level] - 1) + " = 5; stroke " + stroke + due[level] + " ! argument",
                    "strokeAnew " + stroke + (due[level] - 1) + " = 5",
            "strokeAnew " + stroke + due[level] + " ! argument");
            }
        }
    }

    private static void walk() {
        Script.sentence(PIECES, "WALK: density 2 to the power of (the level and 1, together): 2, 4, 8, 16");
        densities("WALK", 2, 4, 8, 16);
        Script.sentence(PIECES, "from x step by step towards y, by 1 with each stroke but the first one, then y");
        row(pairOf(4, 4), "WALK", 0, 1, 4, 4, 4, 4);
        row(pairOf(4, 5), "WALK", 0, 1, 4, 5, 5, 5);
        row(pairOf(4, 6), "WALK", 0, 1, 4, 5, 6, 6);
        row(pairOf(7, 6), "WALK", 0, 1, 7, 6, 6, 6);
        row(pairOf(7, 5), "WALK", 0, 1, 7, 6, 5, 5);
        row(pairOf(1, 7), "WALK", 1, 1, 1, 2, 3, 4, 5, 6, 7, 7);
        row(pairOf(7, 1), "WALK", 1, 1, 7, 6, 5, 4, 3, 2, 1, 1);
        row(pairOf(1, 6), "WALK", 1, 1, 1, 2, 3, 4, 5, 6, 6, 6);
        row(pairOf(1, 7), "WALK", 2, 1, 1, 2, 3, 4, 5, 6, 7, 7, 7, 7, 7, 7, 7, 7, 7, 7);
        row(pairOf(7, 1), "WALK", 3, 1, 7, 6, 5, 4, 3, 2, 1, 1, 1, 1, 1, 1, 1, 1, 1, 1,
            1, 1, 1, 1, 1, 1, 1, 1, 1, 1, 1, 1, 1, 1, 1, 1);
        Script.sentence(PIECES, "but the last stroke of the pair is y");
        row(pairOf(4, 7), "WALK", 0, 1, 4, 5, 6, 7);
        row(pairOf(3, 7), "WALK", 0, 1, 3, 4, 5, 7);
        row(pairOf(1, 7), "WALK", 0, 1, 1, 2, 3, 7);
        row(pairOf(7, 4), "WALK", 0, 1, 7, 6, 5, 4);
        row(pairOf(7, 3), "WALK", 0, 1, 7, 6, 5, 3);
        row(pairOf(7, 1), "WALK", 0, 1, 7, 6, 5, 1);
    }

    /** x is 0 only if y is: in a piece of rests. Its WALK has the density of WALK (NOTES.md). */
    private static void walkOfRests() {
        Script.sentence(PIECES, "With x or y 0 it is as in TURN.");
        for (String hall : new String[] {"form 4; piece 0", "form 4; piece 0; tone 0 3 7; tone 0 3 0"}) {
            for (int level = 0; level <= 3; level++) {
                row(hall, "WALK", level, 1, new int[4 << level]);
                row(hall, "WALK", level, 3, new int[4 << level]);
                row(hall, "TURN", level, 3, new int[2 << level]);
            }
        }
    }

    private static void newObject() {
        Script.sentence("Promise 1", "No forms");
        Script.run("depth 0 1 ! index; depth 0 4 ! index; piece 0 ! index; form 4 = 0");
        Script.sentence("Promise 1", "No [..] pieces");
        Script.run("form 4; sounds 0 1 ! index; tone 0 1 0 ! index; forbid 0 0 ! index",
            "stroke 0 0 1 0 0 ! index; strokeAnew 0 0 1 0 0 ! index; begin 0 ! index; covered 0 ! index",
            "piece 0 = 0");
        Script.sentence("Promise 1", "No [..] players");
        Script.run("form 4; piece 0; covered 0 = 0; learn 0 0 NONE ! index; slip 0 0 1 1 ! index",
            "unlike 0 NONE 0 ! index; unlike 0 0 0 ! index; player 0 = 0");
        Script.sentence("Promise 1", "nothing is played");
        Script.run("now 4 = 0; now 5 = NONE; ticks = 0; strokes BASE = 0; strokes TWIN = 0; strokes TURN = 0",
            "strokes WALK = 0; beats 1 ! state; beats 100 ! state; drum HOLD ! state; drum CUT ! state",
            "days 5 = 0");
        Script.sentence("Promise 1", "GongCycles(), beside another one in use");
        Script.run("form 8; 6x piece 0; 8x player 15; learn 0 0 NONE; forbid 0 31; tone 0 1 7; begin 1; drum SLOW",
            "beats 100 = 100; drift 0 50; years 30 = 30; tune 1 0; now 4 = 1");
        Script.run("years 30 = 30; pitch 0 1 5000 = 44000; pitch 1 1 5000 = 44000; drift 0 0 = 0; now 4 = 0",
            "now 5 = NONE",
            "ticks = 0; form 4 = 0; piece 0 = 0; player 0 = 0; forbid 0 0 = 0; tone 0 1 0 = 0; covered 0 = 0",
            "begin 0 = 1");
    }

    private static void form() {
        Script.sentence("Promise 2", "`length`: 4 to 64, a multiple of 4");
        Script.run("form 4 = 0; form 64 = 1; form 8 = 2; form 60 = 3; depth 0 5 ! index; depth 1 64 = 0",
            "depth 1 65 ! index; depth 2 8 = 0; depth 2 9 ! index; depth 3 60 = 0; depth 3 61 ! index");
        Script.sentence("Promise 2", "Returns its number.");
        Script.run("form 12 = 0; form 12 = 1; form 3 ! argument; form 12 = 2; form 12 = 3");
        Script.sentence("Promise 2", "Throws `IllegalArgumentException` if length is out of range");
        String[] lengths = {"3", "0", "-4", "5", "6", "7", "9", "61", "62", "63", "65", "66", "67", "68", "128",
            "-8", "MIN", "MAX", "2147483644", "-2147483644"};
        for (String length : lengths) {
            Script.run("form " + length + " ! argument; form 4 = 0");
            Script.run("form 8; form 8; form " + length + " ! argument; form 4 = 2");
        }
        Script.sentence("Promise 2", "Throws `IllegalStateException` if there are 4");
        Script.run("form 4; form 4; form 4; form 4 = 3; form 4 ! state; form 64 ! state; form 8 ! state",
            "depth 3 4 = 0; depth 4 4 ! index");
    }

    private static void depth() {
        Script.sentence("Promise 3", "`form`: a form");
        Script.run("form 8; form 4; depth 0 8 = 0; depth 1 4 = 0; depth -1 4 ! index; depth 2 4 ! index",
            "depth 3 4 ! index; depth 4 4 ! index; depth MIN 4 ! index; depth MAX 4 ! index");
        Script.sentence("Promise 3", "`place`: 1 to its length");
        Script.run("form 8; form 4; depth 0 1 = 3; depth 0 8 = 0; depth 1 1 = 2; depth 1 4 = 0",
            "depth 0 0 ! index; depth 0 9 ! index; depth 1 0 ! index; depth 1 5 ! index; depth 1 8 ! index",
            "depth 0 -1 ! index; depth 0 -8 ! index; depth 0 16 ! index; depth 0 MIN ! index; depth 0 MAX ! index");
        Script.sentence("Promise 3", "Returns the depth; NONE without a stroke.");
        Script.run("form 12; depth 0 12 = 0; depth 0 6 = 1; depth 0 3 = 2; depth 0 9 = 2; depth 0 1 = NONE",
            "depth 0 4 = NONE; depth 0 8 = NONE; depth 0 11 = NONE; form 64; depth 1 1 = 6; depth 1 63 = 6",
            "depth 1 64 = 0");
        Script.sentence("Promise 3", "Throws `IndexOutOfBoundsException` if there is no such form or place");
        Script.run("depth 0 1 ! index; form 4; depth 1 1 ! index; depth 0 5 ! index; depth 0 0 ! index",
            "depth 1 5 ! index");
    }

    private static void piece() {
        Script.sentence("Promise 4", "Adds a piece of rests.");
        Script.run("form 4; piece 0; tone 0 1 7; tone 0 4 7; piece 0 = 1; tone 1 1 0 = 0; tone 1 2 0 = 0",
            "tone 1 3 0 = 0; tone 1 4 0 = 0; sounds 1 1 = 0; sounds 0 2 = 7");
        Script.sentence("Promise 4", "`form`: a form");
        Script.run("form 4; form 4; form 4; form 8; piece 0 = 0; piece 3 = 1; sounds 1 8 = 0",
            "piece 4 ! index; piece -1 ! index; piece MIN ! index; piece MAX ! index; piece 2 = 2");
        Script.sentence("Promise 4", "Returns its number.");
        Script.run("form 4; piece 0 = 0; piece 1 ! index; piece 0 = 1; piece 0 = 2; piece 0 = 3; piece 0 = 4",
            "piece 0 = 5");
        Script.sentence("Promise 4", "Throws `IndexOutOfBoundsException` if there is no such form");
        Script.run("piece 0 ! index; piece -1 ! index; form 4; piece 1 ! index; form 4; piece 1 = 0",
            "piece 2 ! index");
        Script.sentence("Promise 4", "Throws `IllegalStateException` if there are 6");
        Script.run("form 4; form 8; 5x piece 0; piece 1 = 5; piece 0 ! state; piece 1 ! state; sounds 5 8 = 0",
            "sounds 6 1 ! index");
    }

    private static void tone() {
        Script.sentence("Promise 5", "`piece`: a piece");
        Script.run("form 4; piece 0; piece 0; tone 0 1 3 = 0; tone 1 1 4 = 0; tone 2 1 1 ! index",
            "tone -1 1 1 ! index",
            "tone MIN 1 1 ! index; tone MAX 1 1 ! index; tone 0 1 0 = 3; tone 1 1 0 = 4");
        Script.run("form 4; 6x piece 0; tone 5 1 7 = 0; tone 6 1 7 ! index; tone 5 1 7 = 7");
        Script.sentence("Promise 5", "`place`: a place of its form");
        Script.run("form 8; form 4; piece 1; piece 0; tone 0 1 1 = 0; tone 0 4 2 = 0; tone 0 0 1 ! index",
            "tone 0 5 1 ! index",
            "tone 1 8 3 = 0; tone 1 9 1 ! index; tone 1 0 1 ! index; tone 0 -1 1 ! index; tone 0 MIN 1 ! index",
            "tone 0 MAX 1 ! index; tone 0 8 1 ! index; tone 0 1 0 = 1; tone 0 4 0 = 2; tone 1 8 0 = 3");
        Script.run("form 64; piece 0; tone 0 64 7 = 0; tone 0 65 7 ! index; tone 0 1 6 = 0; tone 0 64 0 = 7",
            "tone 0 1 0 = 6");
        Script.sentence("Promise 5", "`tone`: 0 to 7");
        Script.run("form 4; piece 0; tone 0 1 7 = 0; tone 0 1 8 ! argument; tone 0 1 0 = 7; tone 0 1 -1 ! argument",
            "tone 0 1 1 = 0; tone 0 1 MIN ! argument; tone 0 1 MAX ! argument; tone 0 1 256 ! argument",
            "tone 0 1 0 = 1");
        Script.sentence("Promise 5", "Returns the one before.");
        Script.run("form 4; piece 0; tone 0 2 5 = 0; tone 0 2 5 = 5; tone 0 2 3 = 5; tone 0 2 0 = 3",
            "tone 0 2 1 = 0; tone 0 3 0 = 0");
        Script.sentence("Promise 5", "Returns the one before: the tone, not what sounds");
        Script.run("form 4; piece 0; tone 0 2 5; sounds 0 3 = 5; tone 0 3 4 = 0; sounds 0 1 = 4; tone 0 1 1 = 0");
        Script.sentence("Promise 5", "Throws `IndexOutOfBoundsException` if there is no such piece or place");
        Script.run("tone 0 1 1 ! index; form 4; tone 0 1 1 ! index; piece 0; tone 1 1 1 ! index",
            "tone 0 5 1 ! index; tone 0 1 1 = 0");
        Script.sentence("Promise 5", "Throws `IllegalArgumentException` if tone is out of range");
        Script.run("form 4; piece 0; tone 0 1 2; tone 0 1 8 ! argument; tone 0 1 -1 ! argument; tone 0 1 2 = 2");
    }

    private static void forbid() {
        Script.sentence("Promise 6", "`piece`: a piece");
        Script.run("form 4; piece 0; piece 0; forbid 0 3 = 0; forbid 1 4 = 0; forbid 2 1 ! index",
            "forbid -1 1 ! index",
            "forbid MIN 1 ! index; forbid MAX 1 ! index; forbid 0 0 = 3; forbid 1 0 = 4");
        Script.run("form 4; 6x piece 0; forbid 5 31 = 0; forbid 6 31 ! index; forbid 5 0 = 31");
        Script.sentence("Promise 6", "`days`: a set: bit d for the day d, 0 to 31");
        Script.run("form 4; piece 0; forbid 0 31 = 0; forbid 0 0 = 31; forbid 0 32 ! argument",
            "forbid 0 -1 ! argument",
            "forbid 0 64 ! argument; forbid 0 MIN ! argument; forbid 0 MAX ! argument; forbid 0 0 = 0");
        for (int day = 0; day < 5; day++) {
            String to = day == 0 ? "" : "days " + day + " = " + day + ";";
            Script.run("form 4; piece 0; forbid 0 " + (1 << day), to, "begin 0 ! state; forbid 0 "
                + (31 - (1 << day)) + " = " + (1 << day) + "; begin 0 = 1");
        }
        Script.sentence("Promise 6", "Returns the set before.");
        Script.run("form 4; piece 0; forbid 0 5 = 0; forbid 0 10 = 5; forbid 0 10 = 10; forbid 0 0 = 10",
            "forbid 0 1 = 0");
        Script.sentence("Promise 6", "Forbids days for a piece: also while it is played, for the next time");
        Script.run("form 4; piece 0; begin 0 = 1; forbid 0 31 = 0; beats 4 = 4; now 4 = 1; drum CUT = 4",
            "begin 0 ! state");
        Script.sentence("Promise 6", "Throws `IndexOutOfBoundsException` if there is no such piece");
        Script.run("forbid 0 1 ! index; form 4; forbid 0 1 ! index; piece 0; forbid 0 1 = 0; forbid 1 1 ! index");
        Script.sentence("Promise 6", "Throws `IllegalArgumentException` if days is out of range");
        Script.run("form 4; piece 0; forbid 0 7; forbid 0 32 ! argument; forbid 0 -1 ! argument; forbid 0 7 = 7");
    }

    private static void sounds() {
        Script.sentence("Promise 7", "`piece`: a piece");
        Script.run("form 4; piece 0; piece 0; tone 0 1 3; tone 1 1 4; sounds 0 1 = 3; sounds 1 1 = 4",
            "sounds 2 1 ! index",
            "sounds -1 1 ! index; sounds MIN 1 ! index; sounds MAX 1 ! index");
        Script.run("form 4; 6x piece 0; sounds 5 1 = 0; sounds 6 1 ! index");
        Script.sentence("Promise 7", "`place`: a place of its form");
        Script.run("form 8; form 4; piece 1; piece 0; tone 0 1 1; tone 1 1 2; sounds 0 4 = 1; sounds 0 5 ! index",
            "sounds 0 0 ! index; sounds 1 8 = 2; sounds 1 9 ! index; sounds 1 0 ! index; sounds 0 -1 ! index",
            "sounds 0 8 ! index; sounds 0 MIN ! index; sounds 0 MAX ! index");
        Script.sentence("Promise 7", "Returns the tone; 0 without one.");
        Script.run("form 4; piece 0; sounds 0 1 = 0; tone 0 2 7; sounds 0 1 = 7; tone 0 2 0; sounds 0 1 = 0");
        Script.sentence("Promise 7", "Throws `IndexOutOfBoundsException` if there is no such piece or place");
        Script.run("sounds 0 1 ! index; form 4; sounds 0 1 ! index; piece 0; sounds 1 1 ! index",
            "sounds 0 5 ! index; sounds 0 0 ! index");
    }

    /** The ranges of stroke and strokeAnew. */
    private static void strokes(String promise, String call) {
        Script.sentence(promise, "`piece`: a piece");
        Script.run("form 4; piece 0; piece 0; tone 0 1 3; tone 1 1 4",
            told(call, "0 BASE 1 0 0 = 3", "1 BASE 1 0 0 = 4", "2 BASE 1 0 0 ! index", "-1 BASE 1 0 0 ! index",
                "MIN BASE 1 0 0 ! index", "MAX BASE 1 0 0 ! index"));
        Script.run("form 4; 6x piece 0", told(call, "5 BASE 1 0 0 = 0", "6 BASE 1 0 0 ! index"));
        Script.sentence(promise, "`part`: BASE to WALK");
        Script.run("form 4; piece 0; tone 0 1 3", told(call, "0 BASE 1 0 0 = 3", "0 TWIN 1 0 0 = 3",
            "0 TURN 1 0 0 = 3", "0 WALK 1 0 0 = 3", "0 -1 1 0 0 ! index", "0 4 1 0 0 ! index",
            "0 MIN 1 0 0 ! index", "0 MAX 1 0 0 ! index"));
        Script.sentence(promise, "`place`: a place of its form");
        Script.run("form 8; form 4; piece 1; piece 0; tone 0 1 3; tone 1 1 4", told(call, "0 TURN 1 0 0 = 3",
            "0 TURN 4 0 0 = 3", "0 TURN 0 0 0 ! index", "0 TURN 5 0 0 ! index", "0 TURN 8 0 0 ! index",
            "1 TURN 8 0 0 = 4", "1 TURN 9 0 0 ! index", "1 TURN -1 0 0 ! index", "1 TURN MIN 0 0 ! index",
            "1 TURN MAX 0 0 ! index"));
        Script.run("form 64; piece 0; tone 0 64 5", told(call, "0 WALK 64 3 15 = 5", "0 WALK 65 3 15 ! index",
            "0 WALK 1 3 15 = 5"));
        Script.sentence(promise, "`level`: 0 to 3");
        Script.run("form 4; piece 0; tone 0 1 3", told(call, "0 TWIN 1 0 1 = 3", "0 TWIN 1 3 15 = 3",
            "0 TWIN 1 -1 0 ! argument", "0 TWIN 1 4 0 ! argument", "0 BASE 1 4 0 ! argument", "0 BASE 1 -1 0 ! argument",
            "0 TURN 1 31 0 ! argument", "0 WALK 1 32 0 ! argument", "0 TURN 1 MIN 0 ! argument", "0 WALK 1 MAX 0 ! argument"));
        densityBounds(promise, call);
        Script.sentence(promise, "Returns the tone; 0 without one.");
        Script.run("form 4; piece 0", told(call, "0 BASE 1 0 0 = 0", "0 TWIN 2 1 3 = 0", "0 TURN 3 2 3 = 0",
            "0 WALK 4 3 15 = 0"), "tone 0 3 6", told(call, "0 BASE 1 0 0 = 6", "0 TWIN 2 1 3 = 6",
            "0 TURN 3 2 3 = 6", "0 WALK 4 3 15 = 6"));
        Script.sentence(promise, "Throws `IndexOutOfBoundsException` if there is no such piece, part or place");
        Script.run(told(call, "0 0 1 0 0 ! index"), "form 4", told(call, "0 0 1 0 0 ! index"), "piece 0",
            told(call, "0 0 1 0 0 = 0", "1 0 1 0 0 ! index", "0 4 1 0 0 ! index", "0 -1 1 0 0 ! index",
                "0 0 5 0 0 ! index", "0 0 0 0 0 ! index"));
        Script.sentence(promise, "Throws `IllegalArgumentException` if level or stroke is out of range");
        Script.run("form 4; piece 0", told(call, "0 0 1 4 0 ! argument", "0 0 1 -1 0 ! argument",
            "0 0 1 0 1 ! argument", "0 0 1 0 -1 ! argument", "0 0 1 4 1 ! argument", "0 0 1 -1 -1 ! argument"));
    }

    private static void densityBounds(String promise, String call) {
        int[][] densities = {{1, 1, 1, 1}, {2, 4, 8, 16}, {1, 2, 4, 8}, {2, 4, 8, 16}};
        Script.sentence(promise, promise.endsWith("8")
            ? "`stroke`: 0 to the density of the part less 1, in this place" : "`stroke`: as told");
        for (int part = 0; part < 4; part++) {
            for (int level = 0; level < 4; level++) {
                for (int place = 1; place <= 2; place++) {
                    String told = "0 " + part + " " + place + " " + level + " ";
                    int density = densities[part][level];
                    Script.run("form 4; piece 0; tone 0 1 3", told(call, told + "0 = 3", told + (density - 1) + " = 3",
                        told + density + " ! argument", told + "-1 ! argument", told + 2 * density + " ! argument",
                        told + "MIN ! argument", told + "MAX ! argument"));
                }
            }
        }
    }

    private static String told(String call, String... arguments) {
        return call + " " + String.join("; " + call + " ", arguments);
    }

    private static void foundAnew() {
        Script.sentence("Promise 9", "Returns the same, each stroke of the pair being found behind the one ahead of it.");
        for (int part = 0; part < 4; part++) {
            for (int level = 0; level < 4; level++) {
                for (int x = 1; x <= 7; x++) {
                    int y = 1 + (x * 3 + level) % 7;
                    row(pairOf(x, y), Integer.toString(part), level, 1, Model.strokesOfPair(part, level, x, y));
                }
            }
        }
    }
}
