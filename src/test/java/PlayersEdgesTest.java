/**
 * The sentences of a boundary case under "Players" and in promises 22 to 26, each with a test of
 * its own. Which exception is thrown when several apply: RefusalsTest.
 */
final class PlayersEdgesTest {
    private static final String PLAYERS = "Players";
    /** Two pieces, of 4 and 8 places, and two players; nobody knows a piece. */
    private static final String TWO = "form 4; form 8; piece 0; piece 1; player 15; player 15;";

    private PlayersEdgesTest() {
    }

    public static void main(String[] args) {
        termsOfNumbers();
        termsOfVersions();
        termsOfCovering();
        player();
        learn();
        learnRefused();
        slip();
        slipRefused();
        unlike();
        covered();
        Script.end();
    }

    private static void termsOfNumbers() {
        Script.sentence(PLAYERS, "Players are numbered from 0, at most 8.");
        Script.run("form 4; piece 0; player 1 = 0; player 1 = 1; player 1 = 2; player 1 = 3; player 1 = 4",
            "player 1 = 5",
            "player 1 = 6; learn 7 0 NONE ! index; player 1 = 7; player 1 ! state; learn 7 0 NONE = 1",
            "learn 8 0 NONE ! index",
            "learn -1 0 NONE ! index; learn 0 0 7 = 2");
    }

    private static void termsOfVersions() {
        Script.sentence(PLAYERS, "A player may know a piece: none at first, each by itself");
        Script.run(TWO, "unlike 0 NONE 0 = NONE; unlike 0 NONE 1 = NONE; learn 0 0 NONE = 1; unlike 0 NONE 0 = 0",
            "unlike 0 NONE 1 = NONE; unlike 1 NONE 0 = NONE");
        Script.sentence(PLAYERS, "in a version of tones of its own");
        Script.run(TWO, "learn 0 0 NONE; learn 1 0 NONE; slip 0 0 1 7 = 0; tone 0 1 3 = 0; slip 1 0 1 5 = 0",
            "tone 0 1 0 = 3",
            "slip 0 0 1 0 = 7; slip 1 0 1 0 = 5");
        Script.sentence(PLAYERS, "who learns it of the hall has the tones as they are then");
        Script.run(TWO, "tone 0 1 7; tone 0 4 1; learn 0 0 NONE; tone 0 1 6; tone 0 2 5; tone 0 4 0",
            "slip 0 0 1 0 = 7; slip 0 0 2 0 = 0",
            "slip 0 0 3 0 = 0; slip 0 0 4 0 = 1; learn 0 0 NONE; slip 0 0 1 0 = 6; slip 0 0 2 0 = 5",
            "slip 0 0 4 0 = 0");
        Script.sentence(PLAYERS, "who learns it of another one has that one's version as it is then");
        Script.run(TWO, "tone 1 1 7; tone 1 8 2; learn 0 1 NONE; slip 0 1 8 3; learn 1 1 0 = 2; slip 0 1 8 4",
            "slip 0 1 1 5",
            "slip 1 1 8 0 = 3; slip 1 1 1 0 = 7; slip 0 1 8 0 = 4; slip 0 1 1 0 = 5; tone 1 8 0 = 2");
        Script.sentence(PLAYERS, "in place of one's own");
        Script.run(TWO, "learn 0 0 NONE; learn 1 0 NONE; slip 1 0 1 6; slip 1 0 4 7; slip 0 0 4 2",
            "learn 1 0 0 = 2; slip 1 0 1 0 = 0",
            "slip 1 0 4 0 = 2; slip 0 0 4 0 = 2");
        Script.run(TWO, "tone 0 2 4; learn 0 0 NONE; slip 0 0 1 6; slip 0 0 2 0; learn 0 0 NONE = 1",
            "slip 0 0 1 0 = 0; slip 0 0 2 0 = 4");
        Script.sentence(PLAYERS, "A slip alters a tone of one's version: one place, of one piece, of nobody else");
        Script.run(TWO, "learn 0 0 NONE; learn 1 0 0; learn 0 1 NONE; slip 0 0 2 5; unlike 0 NONE 0 = 1",
            "unlike 0 1 0 = 1",
            "unlike 1 NONE 0 = 0; unlike 0 NONE 1 = 0; slip 0 0 1 0 = 0; slip 0 0 3 0 = 0; sounds 0 2 = 0");
    }

    /** How many parts players of these abilities cover, who all know the piece. */
    private static void coveredBy(int due, int... abilities) {
        StringBuilder calls = new StringBuilder("form 4; piece 0;");
        for (int player = 0; player < abilities.length; player++) {
            calls.append("player ").append(abilities[player]).append("; learn ").append(player).append(" 0 NONE;");
        }
        Script.run(calls + "covered 0 = " + due);
    }

    private static void termsOfCovering() {
        Script.sentence(PLAYERS, "Parts of a piece are covered by players who know it");
        Script.run("form 4; piece 0; piece 0; 4x player 15; covered 0 = 0; learn 0 0 NONE; covered 0 = 1",
            "learn 1 1 NONE; covered 0 = 1",
            "covered 1 = 1; learn 2 0 0; learn 3 0 2; covered 0 = 3; learn 1 0 NONE; covered 0 = 4; covered 1 = 1");
        Script.sentence(PLAYERS, "and are able for them");
        coveredBy(0, 0);
        coveredBy(1, 1);
        coveredBy(1, 8);
        coveredBy(1, 8, 8, 8, 8, 8, 8, 8, 8);
        coveredBy(0, 0, 0, 0, 0, 0, 0, 0, 0);
        coveredBy(4, 1, 2, 4, 8);
        coveredBy(3, 1, 2, 4, 0);
        coveredBy(3, 7, 7, 7, 7);
        Script.sentence(PLAYERS, "a player for one part at most");
        coveredBy(1, 15);
        coveredBy(2, 15, 15);
        coveredBy(3, 15, 15, 15);
        coveredBy(4, 15, 15, 15, 15);
        coveredBy(4, 15, 15, 15, 15, 15);
        coveredBy(4, 15, 7, 3, 1);
        coveredBy(4, 1, 3, 7, 15);
        coveredBy(4, 9, 9, 6, 6);
        coveredBy(3, 9, 9, 9, 6);
        coveredBy(4, 3, 6, 12, 1);
        coveredBy(3, 3, 3, 3, 12);
    }

    private static void player() {
        Script.sentence("Promise 22", "`parts`: those for which it is able, a set: bit p for the part p, 0 to 15");
        Script.run("player 0 = 0; player 15 = 1; player -1 ! argument; player 16 ! argument; player MIN ! argument",
            "player MAX ! argument; player 1 = 2");
        coveredBy(2, 1, 2);
        coveredBy(2, 4, 8);
        coveredBy(1, 4, 4);
        coveredBy(3, 5, 5, 8);
        Script.sentence("Promise 22", "Returns its number.");
        Script.run("player 3 = 0; player 3 = 1; player 16 ! argument; player 3 = 2");
        Script.sentence("Promise 22", "Throws `IllegalArgumentException` if parts is out of range");
        Script.run("player 16 ! argument; player -1 ! argument; form 4; piece 0; learn 0 0 NONE ! index",
            "player 0 = 0");
        Script.sentence("Promise 22", "Throws `IllegalStateException` if there are 8");
        Script.run("7x player 15; player 0 = 7; player 0 ! state; player 15 ! state; form 4; piece 0",
            "learn 8 0 NONE ! index");
    }

    private static void learn() {
        Script.sentence("Promise 23", "`player`: a player");
        Script.run(TWO, "learn 0 0 NONE = 1; learn 1 0 NONE = 2; learn -1 0 NONE ! index; learn 2 0 NONE ! index",
            "learn MIN 0 NONE ! index; learn MAX 0 NONE ! index; learn 8 0 0 ! index");
        Script.sentence("Promise 23", "`piece`: a piece");
        Script.run(TWO, "learn 0 0 NONE = 1; learn 0 1 NONE = 1; learn 0 -1 NONE ! index; learn 0 2 NONE ! index",
            "learn 0 MIN NONE ! index; learn 0 MAX NONE ! index; learn 0 6 NONE ! index");
        Script.run("form 4; 6x piece 0; player 0; learn 0 5 NONE = 1; learn 0 6 NONE ! index",
            "unlike 0 NONE 4 = NONE");
        Script.sentence("Promise 23", "`of`: the player of whom; NONE for the hall");
        Script.run(TWO, "tone 0 1 5; learn 0 0 NONE = 1; slip 0 0 1 6; learn 1 0 0 = 2; slip 1 0 1 6 = 6",
            "learn 1 0 NONE = 2",
            "slip 1 0 1 6 = 5; learn 1 0 -2 ! index; learn 1 0 2 ! index; learn 1 0 MIN ! index",
            "learn 1 0 MAX ! index");
        Script.sentence("Promise 23", "Returns how many players know it then.");
        Script.run("form 4; piece 0; piece 0; 8x player 0; learn 7 0 NONE = 1; learn 7 0 NONE = 1",
            "learn 0 0 7 = 2; learn 0 0 7 = 2",
            "learn 0 1 NONE = 1; learn 1 0 0 = 3; learn 2 0 0 = 4; learn 3 0 NONE = 5; learn 4 0 3 = 6",
            "learn 5 0 4 = 7",
            "learn 6 0 NONE = 8; learn 6 0 5 = 8; learn 7 1 0 = 2");
        Script.run("form 64; 1x piece 0 = 0; player 15; tone 0 64 7; tone 0 1 6; learn 0 0 NONE = 1",
            "slip 0 0 64 0 = 7; slip 0 0 1 0 = 6");
    }

    private static void learnRefused() {
        Script.sentence("Promise 23", "Throws `IndexOutOfBoundsException` if there is no such player or piece, or of");
        Script.run("learn 0 0 NONE ! index; form 4; piece 0; learn 0 0 NONE ! index; player 1",
            "learn 0 1 NONE ! index",
            "learn 0 0 1 ! index; learn 1 0 NONE ! index; learn 1 0 0 ! index; learn 1 0 1 ! index",
            "learn 0 0 NONE = 1");
        Script.sentence("Promise 23", "Throws `IllegalArgumentException` if of is the player");
        Script.run(TWO, "learn 0 0 NONE; slip 0 0 1 4; learn 0 0 0 ! argument; learn 1 0 1 ! argument",
            "learn 0 1 0 ! argument",
            "slip 0 0 1 4 = 4; unlike 1 NONE 0 = NONE");
        Script.sentence("Promise 23", "Throws `IllegalStateException` if of does not know it");
        Script.run(TWO, "learn 0 0 1 ! state; learn 1 0 0 ! state; learn 0 0 NONE = 1; slip 0 0 1 4",
            "learn 0 0 1 ! state",
            "slip 0 0 1 4 = 4; learn 1 1 0 ! state; learn 1 0 0 = 2; learn 0 0 1 = 2");
    }

    private static void slip() {
        Script.sentence("Promise 24", "`player`: a player");
        Script.run(TWO, "learn 0 0 NONE; learn 1 0 NONE; slip 0 0 1 1 = 0; slip 1 0 1 2 = 0; slip -1 0 1 1 ! index",
            "slip 2 0 1 1 ! index; slip MIN 0 1 1 ! index; slip MAX 0 1 1 ! index");
        Script.sentence("Promise 24", "`piece`: a piece");
        Script.run(TWO, "learn 0 0 NONE; learn 0 1 NONE; slip 0 0 1 1 = 0; slip 0 1 1 2 = 0; slip 0 -1 1 1 ! index",
            "slip 0 2 1 1 ! index; slip 0 MIN 1 1 ! index; slip 0 MAX 1 1 ! index; slip 0 0 1 1 = 1",
            "slip 0 1 1 1 = 2");
        Script.sentence("Promise 24", "`place`: a place of its form");
        Script.run(TWO, "learn 0 0 NONE; learn 0 1 NONE; slip 0 0 1 1 = 0; slip 0 0 4 2 = 0; slip 0 0 0 1 ! index",
            "slip 0 0 5 1 ! index",
            "slip 0 1 8 3 = 0; slip 0 1 9 1 ! index; slip 0 1 0 1 ! index; slip 0 0 -1 1 ! index",
            "slip 0 0 MIN 1 ! index",
            "slip 0 0 MAX 1 ! index; slip 0 0 8 1 ! index; slip 0 0 1 0 = 1; slip 0 0 4 0 = 2; slip 0 1 8 0 = 3");
        Script.sentence("Promise 24", "`tone`: 0 to 7: in its version");
        Script.run(TWO, "learn 0 0 NONE; slip 0 0 1 7 = 0; slip 0 0 1 8 ! argument; slip 0 0 1 0 = 7",
            "slip 0 0 1 -1 ! argument",
            "slip 0 0 1 1 = 0; slip 0 0 1 MIN ! argument; slip 0 0 1 MAX ! argument; slip 0 0 1 0 = 1",
            "tone 0 1 0 = 0");
        Script.sentence("Promise 24", "Returns the one before.");
        Script.run(TWO, "tone 0 2 5; learn 0 0 NONE; slip 0 0 2 5 = 5; slip 0 0 2 3 = 5; slip 0 0 2 0 = 3",
            "slip 0 0 2 1 = 0; slip 0 0 3 0 = 0",
            "tone 0 2 0 = 5");
        Script.sentence("Promise 24", "Lets a player slip for good.");
        Script.run(TWO, "learn 0 0 NONE; slip 0 0 3 4; begin 0; beats 50; drum CUT; years 30; days 100",
            "slip 0 0 3 4 = 4; unlike 0 NONE 0 = 1");
    }

    private static void slipRefused() {
        Script.sentence("Promise 24", "Throws `IndexOutOfBoundsException` if there is no such player, piece or place");
        Script.run("slip 0 0 1 1 ! index; form 4; piece 0; slip 0 0 1 1 ! index; player 1; slip 0 1 1 1 ! index",
            "slip 0 0 5 1 ! index",
            "slip 0 0 0 1 ! index; learn 0 0 NONE; slip 0 0 5 1 ! index; slip 0 0 1 1 = 0");
        Script.sentence("Promise 24", "Throws `IllegalArgumentException` if tone is out of range");
        Script.run(TWO, "learn 0 0 NONE; slip 0 0 1 2; slip 0 0 1 8 ! argument; slip 0 0 1 -1 ! argument",
            "slip 0 0 1 2 = 2");
        Script.sentence("Promise 24", "Throws `IllegalStateException` if the player does not know it");
        Script.run(TWO, "slip 0 0 1 1 ! state; learn 1 0 NONE; slip 0 0 1 1 ! state; learn 0 1 NONE",
            "slip 0 0 1 1 ! state; slip 0 0 4 0 ! state",
            "learn 0 0 1; slip 0 0 1 1 = 0");
    }

    private static void unlike() {
        Script.sentence("Promise 25", "`player`: a player");
        Script.run(TWO, "learn 0 0 NONE; learn 1 0 NONE; unlike 0 NONE 0 = 0; unlike 1 NONE 0 = 0",
            "unlike -1 NONE 0 ! index",
            "unlike -1 0 0 ! index; unlike 2 NONE 0 ! index; unlike MIN 0 0 ! index; unlike MAX 0 0 ! index");
        Script.sentence("Promise 25", "`other`: a player; NONE for the hall");
        Script.run(TWO, "learn 0 0 NONE; learn 1 0 0; slip 1 0 1 1; unlike 0 NONE 0 = 0; unlike 0 1 0 = 1",
            "unlike 1 0 0 = 1; unlike 1 NONE 0 = 1",
            "unlike 1 1 0 = 0; unlike 0 -2 0 ! index; unlike 0 2 0 ! index; unlike 0 MIN 0 ! index",
            "unlike 0 MAX 0 ! index");
        Script.sentence("Promise 25", "`piece`: a piece");
        Script.run(TWO, "learn 0 0 NONE; learn 0 1 NONE; slip 0 1 8 1; unlike 0 NONE 0 = 0; unlike 0 NONE 1 = 1",
            "unlike 0 NONE -1 ! index",
            "unlike 0 NONE 2 ! index; unlike 0 NONE MIN ! index; unlike 0 NONE MAX ! index");
        Script.sentence("Promise 25", "Returns how many: from none to all places");
        for (int length : new int[] {4, 64}) {
            StringBuilder calls = new StringBuilder("form " + length + "; piece 0; player 0; player 0;"
                + "learn 0 0 NONE; learn 1 0 NONE;");
            for (int place = 1; place <= length; place++) {
                calls.append("unlike 0 1 0 = ").append(place - 1).append("; slip 1 0 ").append(place).append(" 7;");
            }
            calls.append("unlike 0 1 0 = ").append(length).append("; unlike 1 0 0 = ").append(length);
            Script.run(calls + "; unlike 1 NONE 0 = " + length + "; unlike 0 NONE 0 = 0");
        }
        Script.sentence("Promise 25", "Returns how many: by the tones, not by what sounds");
        Script.run(TWO, "tone 0 1 5; learn 0 0 NONE; slip 0 0 3 5; unlike 0 NONE 0 = 1; slip 0 0 3 0",
            "slip 0 0 1 6; unlike 0 NONE 0 = 1");
        Script.sentence("Promise 25", "NONE if one of them does not know it.");
        Script.run(TWO, "unlike 0 1 0 = NONE; unlike 0 NONE 0 = NONE; unlike 0 0 0 = NONE; learn 0 0 NONE",
            "unlike 0 1 0 = NONE",
            "unlike 1 0 0 = NONE; unlike 1 NONE 0 = NONE; unlike 1 1 0 = NONE; unlike 0 0 0 = 0",
            "unlike 0 1 1 = NONE; learn 1 0 0; unlike 1 0 0 = 0");
        Script.sentence("Promise 25", "Throws `IndexOutOfBoundsException` if there is no such player, other or piece");
        Script.run("unlike 0 NONE 0 ! index; form 4; piece 0; unlike 0 NONE 0 ! index; player 1",
            "unlike 0 1 0 ! index; unlike 1 0 0 ! index",
            "unlike 0 NONE 1 ! index; unlike 0 0 1 ! index; unlike 0 0 0 = NONE");
    }

    private static void covered() {
        Script.sentence("Promise 26", "`piece`: a piece");
        Script.run(TWO, "learn 0 0 NONE; learn 0 1 NONE; learn 1 1 NONE; covered 0 = 1; covered 1 = 2",
            "covered -1 ! index",
            "covered 2 ! index; covered MIN ! index; covered MAX ! index");
        Script.run("form 4; 6x piece 0; covered 5 = 0; covered 6 ! index");
        Script.sentence("Promise 26", "Returns 0 to 4.");
        Script.run("form 4; piece 0; covered 0 = 0; 8x player 15; covered 0 = 0; learn 0 0 NONE; covered 0 = 1",
            "learn 1 0 NONE; covered 0 = 2",
            "learn 2 0 NONE; covered 0 = 3; learn 3 0 NONE; covered 0 = 4; learn 4 0 NONE; covered 0 = 4",
            "learn 5 0 NONE",
            "learn 6 0 NONE; learn 7 0 NONE; covered 0 = 4");
        Script.sentence("Promise 26", "Throws `IndexOutOfBoundsException` if there is no such piece");
        Script.run("covered 0 ! index; form 4; covered 0 ! index; piece 0; covered 0 = 0; covered 1 ! index");
    }
}
