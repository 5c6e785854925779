/** Promises 22 to 26: player, learn, slip, unlike, covered. */
final class PlayersTest {
    private static final int NONE = GongCycles.NONE;
    private static final int MIN = Integer.MIN_VALUE;
    private static final int MAX = Integer.MAX_VALUE;

    private PlayersTest() {
    }

    public static void main(String[] args) {
        players();
        learningOfTheHall();
        learningOfAnother();
        learningRefused();
        slipping();
        slippingRefused();
        unlike();
        covering();
        coveringNeedsAChange();
        coveringOfAllAbilities();
        Check.end();
    }

    private static GongCycles hall(int... abilities) {
        GongCycles hall = new GongCycles();
        hall.form(4);
        hall.form(8);
        hall.piece(0);
        hall.piece(1);
        for (int parts : abilities) {
            hall.player(parts);
        }
        return hall;
    }

    private static void players() {
        GongCycles hall = new GongCycles();
        Check.argument("22: 16", () -> hall.player(16));
        Check.argument("22: -1", () -> hall.player(-1));
        Check.argument("22: MAX", () -> hall.player(MAX));
        Check.argument("22: MIN", () -> hall.player(MIN));
        for (int player = 0; player < 8; player++) {
            int due = player;
            Check.is("22: player " + player, due, () -> hall.player(due == 0 ? 0 : 15));
        }
        Check.state("22: a ninth", () -> hall.player(0));
        Check.argument("22: a ninth, of 16", () -> hall.player(16));
        hall.form(4);
        hall.piece(0);
        Check.is("22: the eighth is there", 1, () -> hall.learn(7, 0, NONE));
        Check.index("22: a ninth is not", () -> hall.learn(8, 0, NONE));
    }

    private static void learningOfTheHall() {
        GongCycles hall = hall(1, 1, 1);
        hall.tone(0, 1, 3);
        hall.tone(0, 4, 7);
        Check.is("23: the first", 1, () -> hall.learn(0, 0, NONE));
        Check.is("23: the second", 2, () -> hall.learn(2, 0, NONE));
        Check.is("23: once more", 2, () -> hall.learn(2, 0, NONE));
        Check.is("23: another piece", 1, () -> hall.learn(2, 1, NONE));
        Check.is("25: as in the hall", 0, () -> hall.unlike(0, NONE, 0));
        hall.tone(0, 1, 4);
        hall.tone(0, 2, 4);
        Check.is("23: the tones as they were then", 2, () -> hall.unlike(0, NONE, 0));
        Check.is("24: its own tone", 3, () -> hall.slip(0, 0, 1, 3));
        Check.is("24: its own rest", 0, () -> hall.slip(0, 0, 2, 0));
        Check.is("24: the tone that stayed", 7, () -> hall.slip(0, 0, 4, 7));
        Check.is("23: anew", 2, () -> hall.learn(0, 0, NONE));
        Check.is("23: in place of its own", 0, () -> hall.unlike(0, NONE, 0));
        Check.is("23: the other's stays", 2, () -> hall.unlike(2, NONE, 0));
    }

    private static void learningOfAnother() {
        GongCycles hall = hall(1, 1, 1);
        hall.tone(1, 8, 5);
        hall.learn(0, 1, NONE);
        hall.slip(0, 1, 3, 6);
        Check.is("23: of another", 2, () -> hall.learn(1, 1, 0));
        Check.is("25: its slip too", 0, () -> hall.unlike(0, 1, 1));
        Check.is("25: unlike the hall", 1, () -> hall.unlike(1, NONE, 1));
        hall.slip(0, 1, 4, 1);
        Check.is("23: as it was then", 1, () -> hall.unlike(1, 0, 1));
        hall.slip(1, 1, 8, 0);
        Check.is("23: the other way too", 2, () -> hall.unlike(0, 1, 1));
        Check.is("23: in a chain", 3, () -> hall.learn(2, 1, 1));
        Check.is("25: two slips from the hall", 2, () -> hall.unlike(2, NONE, 1));
        Check.is("23: in place of one's own", 3, () -> hall.learn(1, 1, 0));
        Check.is("25: alike", 0, () -> hall.unlike(1, 0, 1));
        Check.is("25: the third is not", 2, () -> hall.unlike(2, 1, 1));
        Check.is("24: the tone is back", 5, () -> hall.slip(1, 1, 8, 5));
    }

    private static void learningRefused() {
        GongCycles hall = hall(1, 1);
        Check.index("23: player 2", () -> hall.learn(2, 0, NONE));
        Check.index("23: player -1", () -> hall.learn(-1, 0, NONE));
        Check.index("23: player MAX", () -> hall.learn(MAX, 0, NONE));
        Check.index("23: piece 2", () -> hall.learn(0, 2, NONE));
        Check.index("23: piece -1", () -> hall.learn(0, -1, NONE));
        Check.index("23: of 2", () -> hall.learn(0, 0, 2));
        Check.index("23: of -2", () -> hall.learn(0, 0, -2));
        Check.index("23: of MIN", () -> hall.learn(0, 0, MIN));
        Check.index("23: of 2 by 2", () -> hall.learn(2, 0, 2));
        Check.index("23: of itself, no piece", () -> hall.learn(0, 2, 0));
        Check.argument("23: of itself, not known", () -> hall.learn(0, 0, 0));
        Check.state("23: of one who does not know it", () -> hall.learn(0, 0, 1));
        Check.is("25: not learned", NONE, () -> hall.unlike(0, NONE, 0));
        Check.is("23: nobody knew it", 1, () -> hall.learn(0, 0, NONE));
        Check.argument("23: of itself", () -> hall.learn(0, 0, 0));
        hall.slip(0, 0, 1, 1);
        Check.state("23: of one who does not", () -> hall.learn(0, 0, 1));
        Check.is("23: unchanged", 1, () -> hall.unlike(0, NONE, 0));
        Check.state("23: another piece of one who does not", () -> hall.learn(1, 1, 0));
        Check.is("23: that one of one who does", 2, () -> hall.learn(1, 0, 0));
    }

    private static void slipping() {
        GongCycles hall = hall(1, 1);
        hall.learn(0, 0, NONE);
        hall.learn(0, 1, NONE);
        Check.is("24: a rest before", 0, () -> hall.slip(0, 0, 4, 7));
        Check.is("24: the one before", 7, () -> hall.slip(0, 0, 4, 2));
        Check.is("24: to a rest", 2, () -> hall.slip(0, 0, 4, 0));
        Check.is("24: for good", 0, () -> hall.slip(0, 0, 4, 1));
        Check.is("24: the hall is as it was", 0, () -> hall.tone(0, 4, 0));
        Check.is("24: what sounds in it, too", 0, () -> hall.sounds(0, 4));
        Check.is("24: the other piece", 0, () -> hall.slip(0, 1, 4, 3));
        Check.is("24: its last place", 0, () -> hall.slip(0, 1, 8, 3));
        Check.is("24: slips of the first piece", 1, () -> hall.unlike(0, NONE, 0));
        Check.is("24: slips of the second piece", 2, () -> hall.unlike(0, NONE, 1));
    }

    private static void slippingRefused() {
        GongCycles hall = hall(1, 1);
        hall.learn(0, 0, NONE);
        Check.index("24: player 2", () -> hall.slip(2, 0, 1, 1));
        Check.index("24: player -1", () -> hall.slip(-1, 0, 1, 1));
        Check.index("24: piece 2", () -> hall.slip(0, 2, 1, 1));
        Check.index("24: piece -1", () -> hall.slip(0, -1, 1, 1));
        Check.index("24: place 0", () -> hall.slip(0, 0, 0, 1));
        Check.index("24: place 5", () -> hall.slip(0, 0, 5, 1));
        Check.index("24: place 5 ahead of tone", () -> hall.slip(0, 0, 5, 8));
        Check.index("24: place 9, not known", () -> hall.slip(1, 1, 9, 1));
        Check.argument("24: tone 8", () -> hall.slip(0, 0, 1, 8));
        Check.argument("24: tone -1", () -> hall.slip(0, 0, 1, -1));
        Check.argument("24: tone 8, not known", () -> hall.slip(1, 0, 1, 8));
        Check.state("24: not known", () -> hall.slip(1, 0, 1, 1));
        Check.state("24: another piece", () -> hall.slip(0, 1, 8, 1));
        Check.is("24: unchanged", 0, () -> hall.unlike(0, NONE, 0));
        Check.is("24: still not known", NONE, () -> hall.unlike(1, NONE, 0));
    }

    private static void unlike() {
        GongCycles hall = hall(1, 1, 1);
        Check.is("25: not known", NONE, () -> hall.unlike(0, 1, 0));
        Check.is("25: not known, hall", NONE, () -> hall.unlike(0, NONE, 0));
        Check.is("25: not known, itself", NONE, () -> hall.unlike(0, 0, 0));
        hall.learn(0, 0, NONE);
        Check.is("25: the other does not", NONE, () -> hall.unlike(0, 1, 0));
        Check.is("25: one does not", NONE, () -> hall.unlike(1, 0, 0));
        Check.is("25: itself", 0, () -> hall.unlike(0, 0, 0));
        Check.is("25: another piece", NONE, () -> hall.unlike(0, NONE, 1));
        hall.learn(1, 0, NONE);
        // Places 2 to 4 sound unlike, but only the tone of place 2 is.
        hall.slip(0, 0, 2, 6);
        Check.is("25: tones, not what sounds", 1, () -> hall.unlike(0, 1, 0));
        for (int place = 1; place <= 4; place++) {
            hall.slip(1, 0, place, 7);
        }
        Check.is("25: all places", 4, () -> hall.unlike(0, 1, 0));
        Check.is("25: either way", 4, () -> hall.unlike(1, 0, 0));
        Check.is("25: of the hall", 4, () -> hall.unlike(1, NONE, 0));
        hall.tone(0, 3, 7);
        Check.is("25: of the hall as it is now", 3, () -> hall.unlike(1, NONE, 0));
        Check.index("25: player 3", () -> hall.unlike(3, NONE, 0));
        Check.index("25: player -1", () -> hall.unlike(-1, 0, 0));
        Check.index("25: other 3", () -> hall.unlike(0, 3, 0));
        Check.index("25: other -2", () -> hall.unlike(0, -2, 0));
        Check.index("25: other MAX", () -> hall.unlike(0, MAX, 0));
        Check.index("25: piece 2", () -> hall.unlike(0, 1, 2));
        Check.index("25: piece -1", () -> hall.unlike(0, NONE, -1));
        Check.index("25: other 3, not known", () -> hall.unlike(2, 3, 0));
    }

    private static void covering() {
        GongCycles hall = hall(15, 15, 0, 1, 15, 15, 15);
        Check.is("26: nobody knows it", 0, () -> hall.covered(0));
        hall.learn(2, 0, NONE);
        Check.is("26: able for nothing", 0, () -> hall.covered(0));
        int[] due = {1, 2, 3, 4, 4};
        int[] learners = {0, 1, 4, 5, 6};
        for (int at = 0; at < learners.length; at++) {
            int learner = learners[at];
            hall.learn(learner, 0, NONE);
            Check.is("26: with " + learner, due[at], () -> hall.covered(0));
        }
        Check.is("26: the other piece", 0, () -> hall.covered(1));
        hall.learn(3, 1, NONE);
        Check.is("26: by one", 1, () -> hall.covered(1));
        Check.index("26: piece 2", () -> hall.covered(2));
        Check.index("26: piece -1", () -> hall.covered(-1));
        Check.index("26: piece MAX", () -> hall.covered(MAX));
    }

    /** Who comes first and takes the first part that is free would keep others from theirs. */
    private static void coveringNeedsAChange() {
        coveredBy(4, 15, 7, 3, 1);
        coveredBy(4, 3, 6, 12, 1);
        coveredBy(3, 1, 1, 2, 12);
        coveredBy(2, 3, 3, 3, 3);
        coveredBy(1, 8, 8, 8, 8, 8, 8, 8, 8);
        coveredBy(3, 7, 7, 7, 7, 0);
        coveredBy(2, 1, 8);
        coveredBy(4, 9, 9, 6, 6);
        coveredBy(3, 9, 9, 9, 6);
    }

    private static void coveredBy(int due, int... abilities) {
        GongCycles hall = hall(abilities);
        for (int player = 0; player < abilities.length; player++) {
            hall.learn(player, 1, NONE);
        }
        Check.is("26: by " + java.util.Arrays.toString(abilities), due, () -> hall.covered(1));
    }

    private static void coveringOfAllAbilities() {
        for (int all = 0; all < 65536; all += 7) {
            int[] abilities = {all & 15, all >> 4 & 15, all >> 8 & 15, all >> 12};
            GongCycles hall = hall(abilities);
            for (int player = 0; player < 4; player++) {
                hall.learn(player, 0, NONE);
            }
            int due = Model.mostCovered(abilities, 0, 0);
            Check.is("26: by " + java.util.Arrays.toString(abilities), due, () -> hall.covered(0));
        }
    }
}
